import java.io.IOException;
import java.nio.file.Files;
import java.nio.file.Path;
import java.util.ArrayList;
import java.util.Arrays;
import java.util.List;
import java.util.Set;
import java.util.TreeSet;

/**
 * A sentence of the document that names a boundary, and the answers on both sides of it.
 *
 * <p>Calls are written as words, "lease 0 0 5 | days 7 | returned 0" (see {@link Calls}). Each check
 * makes an object of its own: the calls that lead up to the boundary, then the calls of the check,
 * of which the last one's answer is compared. The calls ahead of it must be answered by 0 or more,
 * those written with a ! ahead must be refused, so that no check stands on calls that didn't happen.
 */
final class Edge {
    private static final String DOC = document();
    private static final Set<Integer> PROMISES = new TreeSet<>();
    private static int sentences = 0;

    private final String name;
    private String leadUp = "";

    private Edge(String name) {
        this.name = name;
    }

    /** A boundary that a promise's own words, or what the document says ahead of them, names. */
    static Edge says(int promise, String sentence) {
        Due.is("promise " + promise + " stands under a sentence of the document: " + sentence,
                standsInDocument(promise, sentence) ? 1 : 0, 1);
        PROMISES.add(promise);
        sentences++;
        return new Edge("promise " + promise + ", \"" + sentence + "\"");
    }

    private static boolean standsInDocument(int promise, String sentence) {
        if (DOC.isEmpty()) {
            return true;
        }
        int ownFrom = DOC.indexOf("## Promise " + promise + ": ");
        int ownTo = DOC.indexOf(" ## ", ownFrom + 1);
        String own = DOC.substring(ownFrom, ownTo);
        String ahead = DOC.substring(0, DOC.indexOf("## Promise 1: "));
        return own.contains(sentence) || ahead.contains(sentence);
    }

    /** The document in one line; empty if it isn't there: the boundaries themselves are tested then, too. */
    private static String document() {
        try {
            return Files.readString(Path.of("../shared/DOC.md")).replaceAll("[`\\s]+", " ");
        } catch (IOException e) {
            System.out.println("no document here, so the sentences aren't looked for in it: " + e);
            return "";
        }
    }

    /** Adds calls to those that lead up to the boundary. */
    Edge after(String calls) {
        leadUp = leadUp.isEmpty() ? calls : leadUp + " | " + calls;
        return this;
    }

    private Calls start(String calls) {
        Calls made = new Calls();
        made.make(name, leadUp);
        made.make(name, calls);
        return made;
    }

    private static String butLast(String calls) {
        int bar = calls.lastIndexOf(" | ");
        return bar < 0 ? "" : calls.substring(0, bar);
    }

    private static String last(String calls) {
        int bar = calls.lastIndexOf(" | ");
        return bar < 0 ? calls : calls.substring(bar + 3);
    }

    /** The answer of the last of these calls. */
    Edge is(String calls, int due) {
        Due.is(name + ": " + leadUp + " | " + calls, start(butLast(calls)).ask(last(calls)), due);
        return this;
    }

    /** The last of these calls is refused, and every later call answers as if it hadn't been made. */
    Edge refused(String calls, int due) {
        return refusedThen(calls, due, State.ALL);
    }

    /** The same of lease, pass or swap, refused by these whys: THE REFUSAL alone changes. */
    Edge refusedBy(String calls, int... whys) {
        refusedThen(calls, Due.STATE, State.ALL_BUT_WHY);
        for (int i = 0; i < 3; i++) {
            is(butLast(calls) + (butLast(calls).isEmpty() ? "!" : " | !") + last(calls) + " | why " + i,
                    i < whys.length ? whys[i] : Due.NOT);
        }
        return this;
    }

    private Edge refusedThen(String calls, int due, List<State> pages) {
        is(calls, due);
        return sameBehind(butLast(calls), calls, pages);
    }

    /** All that later calls tell is the same behind these calls and behind those. */
    Edge sameBehind(String these, String those) {
        return sameBehind(these, those, State.ALL);
    }

    private Edge sameBehind(String these, String those, List<State> pages) {
        for (State page : pages) {
            int[] want = page.readOff(start(these));
            Calls changed = start(butLast(those));
            changed.ask(last(those));
            int[] got = page.readOff(changed);
            if (!Arrays.equals(got, want)) {
                int at = Arrays.mismatch(got, want);
                Due.is(name + ": " + leadUp + " | " + those + ", then " + page.callAt(at), got[at], want[at]);
            }
        }
        Due.is(name + ": pages of the state", pages.isEmpty() ? 0 : 1, 1);
        return this;
    }

    /** Refused for each of these numbers in the place of the #, as said. */
    Edge refusedFor(String calls, int due, int... numbers) {
        for (int number : numbers) {
            refused(calls.replace("#", Integer.toString(number)), due);
        }
        return this;
    }

    /** So many times these calls, to lead up to somewhere. */
    static String times(int n, String calls) {
        List<String> all = new ArrayList<>();
        for (int i = 0; i < n; i++) {
            all.add(calls.replace("#", Integer.toString(i)));
        }
        return String.join(" | ", all);
    }

    /** Persons a, b, c .. of these purses. */
    static String people(int... purses) {
        List<String> all = new ArrayList<>();
        for (int i = 0; i < purses.length; i++) {
            all.add("person " + (i + 1) + " " + purses[i]);
        }
        return String.join(" | ", all);
    }

    static String tools(int... worths) {
        List<String> all = new ArrayList<>();
        for (int worth : worths) {
            all.add("tool " + worth);
        }
        return String.join(" | ", all);
    }

    /** The end of a test that has to have a sentence for each promise from the one to the other. */
    static void end(int firstPromise, int lastPromise) {
        for (int promise = firstPromise; promise <= lastPromise; promise++) {
            Due.is("promise " + promise + " has a boundary", PROMISES.contains(promise) ? 1 : 0, 1);
        }
        System.out.print(sentences + " sentences, ");
        Due.end();
    }
}
