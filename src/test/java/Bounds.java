import java.util.List;
import java.util.Set;
import java.util.TreeSet;
import java.util.function.Function;
import java.util.function.Supplier;

/** Answers that are due by a sentence of the document; counts which sentences were held. */
final class Bounds {
    /** A call on a forge that is given. */
    interface On extends Function<PackageForge, Object> {
    }

    /** Sentences that say what the whole is for; all others are held. */
    private static final Set<String> WITHOUT_A_BOUND = Set.of(
            "What it is | A forge of packages: sources that need other packages in ranges of versions, versions"
                    + " that are chosen together, compiling that is left out where no interface changed, tests on"
                    + " machines that owners pay, records of flaky tests, releases that are yanked, and others that"
                    + " have to be locked anew.",
            "Terms | Its calls are those of a forge's desk: packages, needs and tests are entered, sources are"
                    + " changed, compiled, tested and published, and all other calls look.");

    private final Expect expect;
    private final Set<String> written = Document.sentences();
    private final Set<String> held = new TreeSet<>();
    private final Set<String> current = new TreeSet<>();
    private String label = "";

    Bounds(Expect expect) {
        this.expect = expect;
    }

    /** What follows holds the class to these words, which have to stand in that section. */
    void sentence(String section, String... sentences) {
        current.clear();
        label = "";
        alsoSentence(section, sentences);
    }

    void alsoSentence(String section, String... sentences) {
        for (String sentence : sentences) {
            String whole = Document.inSection(section, sentence);
            expect.equal("stands in the document: " + whole, true, () -> written.contains(whole));
            current.add(whole);
        }
        label += section + ", \"" + String.join("\" \"", sentences) + "\": ";
    }

    void due(String what, Object due, Expect.Call call) {
        held.addAll(current);
        expect.equal(label + what, due, call);
    }

    /** The call is refused, and all that can be asked of the forge is as if it had not been made. */
    void refused(String what, Class<? extends RuntimeException> due, Supplier<PackageForge> state, On call) {
        PackageForge forge = state.get();
        due(what, due, () -> call.apply(forge));
        List<Object> unchanged = Probe.answers(state.get());
        due(what + ", changes nothing", unchanged, () -> Probe.answers(forge));
    }

    void allSentencesAreHeld() {
        Set<String> missing = new TreeSet<>(written);
        missing.removeAll(held);
        expect.equal("sentences without a test", new TreeSet<>(WITHOUT_A_BOUND), () -> missing);
    }

    /** What is refused on both sides of a range: next to it and farthest from it. */
    static int[] outside(int least, int greatest) {
        return new int[] {Integer.MIN_VALUE, least - 1, greatest + 1, Integer.MAX_VALUE};
    }
}
