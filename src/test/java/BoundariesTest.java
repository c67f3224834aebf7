/** For each sentence of the document that names a boundary case a test of its own, told with the sentence's words. */
public final class BoundariesTest {
    private static final int PROMISES = 31;

    private BoundariesTest() {
    }

    public static void main(String[] args) {
        Check check = new Check("boundaries");
        Sentences sentences = new Sentences(check);
        SetBoundaries.all(sentences);
        FitBoundaries.all(sentences);
        QuestionBoundaries.all(sentences);
        TurnBoundaries.all(sentences);
        ActBoundaries.all(sentences);
        SheetBoundaries.all(sentences);
        StatusBoundaries.all(sentences);
        sentences.everyPromiseHasOne(PROMISES);
        check.end();
    }
}
