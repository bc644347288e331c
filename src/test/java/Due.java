/** Counts the answers that are not the ones that are due, and feeds texts. */
final class Due {
    static final int BAD = -1, NOT = -2, FULL = -3, STATE = -5;
    static final int EMPTY = -11, SORT = -12, SIZE = -14;
    private static int asked = 0;
    private static int wrong = 0;

    private Due() {
    }

    static void is(String call, long got, long want) {
        asked++;
        if (got != want) {
            wrong++;
            System.out.println(call + " answered " + got + ", due is " + want);
        }
    }

    /** A NAME as the number that person() takes. */
    static int name(String letters) {
        int number = 0;
        for (char letter : letters.toCharArray()) {
            number = 27 * number + letter - 'a' + 1;
        }
        return number;
    }

    static void feed(LeaseOffice x, String text) {
        for (char letter : text.toCharArray()) {
            x.feed(letter);
        }
    }

    static int script(LeaseOffice x, String text) {
        feed(x, text);
        return x.script();
    }

    /** An office with persons a, b, c .. of these purses. */
    static LeaseOffice officeOf(int... purses) {
        LeaseOffice x = new LeaseOffice();
        for (int i = 0; i < purses.length; i++) {
            is("person " + i, x.person(i + 1, purses[i]), i);
        }
        return x;
    }

    static void end() {
        System.out.println(asked + " answers, " + wrong + " not as due");
        if (wrong != 0) {
            System.exit(1);
        }
    }
}
