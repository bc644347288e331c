import java.util.ArrayList;
import java.util.List;

/**
 * A page of all that an object's later calls can show of its state: some calls that are made ahead
 * (the tape is done, the image is laid back), then questions, few enough for one object.
 */
final class State {
    private static final int QUESTIONS = 180;
    static final List<State> ALL = new ArrayList<>();
    static final List<State> ALL_BUT_WHY = new ArrayList<>();

    static {
        ALL_BUT_WHY.addAll(pages("", things()));
        ALL_BUT_WHY.addAll(pages("", holders()));
        ALL_BUT_WHY.addAll(pages("script", counts()));
        ALL_BUT_WHY.addAll(pages("back", things()));
        ALL_BUT_WHY.addAll(pages("back", holders()));
        ALL.addAll(ALL_BUT_WHY);
        ALL.addAll(pages("", whys()));
        ALL.addAll(pages("script", whys()));
        ALL.addAll(pages("back", whys()));
    }

    private final String ahead;
    private final List<String> methods = new ArrayList<>();
    private final List<int[]> numbers = new ArrayList<>();

    private State(String ahead) {
        this.ahead = ahead;
    }

    /** The answers, the one of the call made ahead as the first one. */
    int[] readOff(Calls calls) {
        int[] answers = new int[methods.size() + 1];
        answers[0] = ahead.isEmpty() ? 0 : calls.ask(ahead);
        for (int i = 0; i < methods.size(); i++) {
            answers[i + 1] = calls.ask(methods.get(i), numbers.get(i));
        }
        return answers;
    }

    String callAt(int answer) {
        if (answer == 0) {
            return ahead;
        }
        StringBuilder call = new StringBuilder(ahead.isEmpty() ? "" : ahead + " | ");
        call.append(methods.get(answer - 1));
        for (int number : numbers.get(answer - 1)) {
            call.append(' ').append(number);
        }
        return call.toString();
    }

    private void ask(String method, int... of) {
        methods.add(method);
        numbers.add(of);
    }

    private static List<State> pages(String ahead, State questions) {
        List<State> pages = new ArrayList<>();
        for (int i = 0; i < questions.methods.size(); i++) {
            if (i % QUESTIONS == 0) {
                pages.add(new State(ahead));
            }
            pages.get(pages.size() - 1).ask(questions.methods.get(i), questions.numbers.get(i));
        }
        return pages;
    }

    private static State whys() {
        State page = new State("");
        for (int i = 0; i < 3; i++) {
            page.ask("why", i);
        }
        return page;
    }

    private static State counts() {
        State page = new State("");
        for (int what = 0; what < 9; what++) {
            page.ask("count", what);
            page.ask("swaps", what);
        }
        return page;
    }

    private static State things() {
        State page = counts();
        for (int p = 0; p < 12; p++) {
            page.ask("ranked", p);
            for (int what = 0; what < 8; what++) {
                page.ask("personOf", p, what);
            }
        }
        for (int t = 0; t < 10; t++) {
            aTool(page, t);
        }
        for (int n = 0; n <= 60; n++) {
            page.ask("ahead", n, 0);
            page.ask("ahead", n, 1);
        }
        return page;
    }

    private static void aTool(State page, int t) {
        for (int what = 0; what < 9; what++) {
            page.ask("toolOf", t, what);
        }
        for (int i = 0; i < 9; i++) {
            for (int what = 0; what < 4; what++) {
                page.ask("claimOf", t, i, what);
            }
            for (int what = 0; what < 3; what++) {
                page.ask("link", t, i, what);
            }
            page.ask("seen", t, i, 0);
            page.ask("seen", t, i, 1);
        }
        for (int what = 0; what < 3; what++) {
            page.ask("told", t, what);
        }
        for (int p = 0; p < 12; p++) {
            page.ask("share", t, p);
            // What a wish was is told only by one that changes it; each is asked for once a page.
            page.ask("wish", p, t, 0);
        }
    }

    private static State holders() {
        State page = new State("");
        for (int h = 0; h < 6; h++) {
            for (int as = 0; as < 4; as++) {
                page.ask("tells", h, as);
            }
            for (int t = -1; t < 10; t++) {
                page.ask("judge", h, t);
            }
            for (int i = 0; i < 60; i++) {
                page.ask("put", h, i, 0);
            }
        }
        return page;
    }
}
