import java.util.Set;
import java.util.TreeSet;
import java.util.function.Consumer;

/** A test of its own for each sentence of the document that names a boundary case. */
final class Sentences {
    private final Check check;
    private final Set<Integer> promises = new TreeSet<>();

    Sentences(Check check) {
        this.check = check;
    }

    /** Promise 0 stands for what comes ahead of the promises: "What it is", "The public face" and "Terms". */
    void test(int promise, String words, Consumer<Run> body) {
        promises.add(promise);
        check.begin("promise " + promise + ", \"" + words + "\"");
        body.accept(new Run(check));
    }

    void everyPromiseHasOne(int promisesOfDocument) {
        check.begin("all promises");
        for (int promise = 0; promise <= promisesOfDocument; promise++) {
            check.holds("promise " + promise + " has a test of its boundaries", promises.contains(promise));
        }
    }
}
