import java.util.Random;

/**
 * Runs of 512 calls, the same ones every time, each answered by the class as by the Model. An
 * exception that comes out of the class ends this test, too.
 */
public final class ModelTest {
    private static final int RUNS = 2500;
    private static final int CALLS = 512;
    private static final int[] FAR = {-1, -2, 12, 10, 61, 100, 1000, 9999, 10000, 19683, Integer.MAX_VALUE,
        Integer.MIN_VALUE, -100, Integer.MAX_VALUE - 1, 65536};

    private final Random random;
    private final LeaseOffice x = new LeaseOffice();
    private final Model model = new Model();
    private final String run;
    private final boolean wild;
    private int calls = 0;

    private ModelTest(int number) {
        random = new Random(number);
        run = "run " + number;
        wild = number % 25 == 0;
    }

    public static void main(String[] args) {
        for (int number = 0; number < RUNS; number++) {
            new ModelTest(number).start();
        }
        Due.end();
    }

    private void due(String call, int got, int want) {
        calls++;
        Due.is(run + ", call " + calls + ": " + call, got, want);
    }

    private int any(int below) {
        boolean far = random.nextInt(wild ? 3 : 60) == 0;
        return far ? FAR[random.nextInt(FAR.length)] : random.nextInt(below);
    }

    private int from1(int most) {
        return any(most) + 1;
    }

    private int aPerson() {
        return any(Math.max(x.count(0), 1));
    }

    private int aTool() {
        return any(Math.max(x.count(1), 1));
    }

    private void start() {
        int persons = random.nextInt(13);
        int tools = random.nextInt(11);
        int rich = random.nextInt(4) == 0 ? 9999 : 150;
        for (int i = 0; i < persons; i++) {
            int name = random.nextBoolean() ? i + 1 : random.nextInt(19683);
            int purse = random.nextInt(rich + 1);
            due("person", x.person(name, purse), model.deed('p', name, purse));
        }
        for (int i = 0; i < tools; i++) {
            int worth = random.nextInt(99) + 1;
            due("tool", x.tool(worth), model.deed('t', worth));
        }
        while (calls < CALLS) {
            int kind = random.nextInt(100);
            if (kind < 55) {
                deed(random.nextInt(24));
            } else if (kind < 90) {
                question(random.nextInt(13));
            } else if (kind < 98) {
                holders(random.nextInt(6));
            } else if (kind == 98) {
                text();
            } else {
                images();
            }
        }
        boolean same = allAnswersAlike();
        Due.is(run + ": all that is told at the end", same ? 1 : 0, 1);
    }

    private void deed(int kind) {
        int p = aPerson(), t = aTool(), u = aTool();
        int n = from1(9), more = random.nextInt(3) == 0 ? from1(99) : from1(4);
        switch (kind) {
            case 0: { int name = any(19683); due("person", x.person(name, more), model.deed('p', name, more)); break; }
            case 1: due("tool(" + more + ")", x.tool(more), model.deed('t', more)); break;
            case 2: case 3: case 4: case 5: {
                int v = any(10);
                due("wish(" + p + ", " + t + ", " + v + ")", x.wish(p, t, v), model.deed('w', p, t, v));
                break;
            }
            case 6: { int coins = from1(200); due("fund", x.fund(p, coins), model.deed('f', p, coins)); break; }
            case 7: case 8: case 9: case 10: {
                int days = from1(30);
                due("lease(" + p + ", " + t + ", " + days + ")", x.lease(p, t, days), model.deed('l', p, t, days));
                break;
            }
            case 11: case 12: case 13: {
                int ud = 100 * any(10) + from1(30);
                due("claim(" + p + ", " + t + ", " + ud + ")", x.claim(p, t, ud), model.claim(p, t, ud));
                break;
            }
            case 14: due("waive(" + p + ", " + t + ")", x.waive(p, t), model.deed('v', p, t)); break;
            case 15: case 16: due("returned(" + t + ")", x.returned(t), model.deed('r', t)); break;
            case 17: case 18: due("pass(" + t + ", " + p + ")", x.pass(t, p), model.deed('g', t, p)); break;
            case 19: case 20: due("swap(" + t + ", " + u + ")", x.swap(t, u), model.deed('s', t, u)); break;
            case 21: due("use(" + t + ", " + n + ")", x.use(t, n), model.deed('u', t, n)); break;
            case 22: due("look(" + t + ")", x.look(t), model.deed('k', t)); break;
            default: due("days(" + more + ")", x.days(more), model.deed('d', more)); break;
        }
    }

    private void question(int kind) {
        int p = aPerson(), t = aTool(), i = any(9), what = any(9);
        String of = "(" + p + "/" + t + ", " + i + ", " + what + ")";
        switch (kind) {
            case 0: due("personOf" + of, x.personOf(p, what), model.personOf(p, what)); break;
            case 1: due("toolOf" + of, x.toolOf(t, what), model.toolOf(t, what)); break;
            case 2: due("link" + of, x.link(t, i, what % 4), model.link(t, i, what % 4)); break;
            case 3: due("seen" + of, x.seen(t, i, what % 3), model.seen(t, i, what % 3)); break;
            case 4: due("claimOf" + of, x.claimOf(t, i, what % 5), model.claimOf(t, i, what % 5)); break;
            case 5: due("ranked" + of, x.ranked(p), model.ranked(p)); break;
            case 6: due("why" + of, x.why(what % 3), model.why(what % 3)); break;
            case 7: due("told" + of, x.told(t, what % 4), model.told(t, what % 4)); break;
            case 8: due("share" + of, x.share(t, p), model.share(t, p)); break;
            case 9: case 10: due("swaps" + of, x.swaps(what % 5), model.swaps(what % 5)); break;
            case 11: { int n = any(61); due("ahead" + of, x.ahead(n, what % 3), model.ahead(n, what % 3)); break; }
            default: { int w = any(10); due("count(" + w + ")", x.count(w), model.count(w)); break; }
        }
    }

    private void holders(int kind) {
        int h = any(6), i = any(6), n = any(8);
        switch (kind) {
            case 0: {
                int what = any(4) % 4, number = random.nextBoolean() ? aPerson() : aTool();
                due("hold(" + h + ", " + what + ", " + number + ")", x.hold(h, what, number),
                        model.hold(h, what, number));
                break;
            }
            case 1: due("row(" + h + ", " + n + ")", x.row(h, n), model.row(h, n)); break;
            case 2: case 3: {
                int v = random.nextInt(4) == 0 ? any(12) : x.ranked(Math.abs(i % 12));
                due("put(" + h + ", " + i + ")", x.put(h, i, v), model.put(h, i, v));
                break;
            }
            case 4: due("tells(" + h + ", " + i + ")", x.tells(h, i), model.tells(h, i)); break;
            default: {
                int t = random.nextBoolean() ? -1 : aTool();
                due("judge(" + h + ", " + t + ")", x.judge(h, t), model.judge(h, t));
                break;
            }
        }
    }

    private void images() {
        if (random.nextInt(3) == 0) {
            due("image()", x.image(), model.image());
        } else {
            due("back()", x.back(), model.back());
        }
    }

    private void text() {
        StringBuilder text = new StringBuilder();
        int lines = random.nextInt(5) + 1;
        for (int i = 0; i < lines; i++) {
            text.append(i > 0 ? ";" : "").append(line("ptwlcrgsukd".charAt(random.nextInt(11))));
        }
        if (random.nextInt(3) == 0) {
            int at = random.nextInt(text.length());
            switch (random.nextInt(4)) {
                case 0: text.deleteCharAt(at); break;
                case 1: text.insert(at, " ;0a9z{`/:pc".charAt(random.nextInt(12))); break;
                case 2: text.setCharAt(at, (char) random.nextInt(256)); break;
                default: text.setLength(at); break;
            }
        }
        for (char letter : text.toString().toCharArray()) {
            due("feed(" + (int) letter + ")", x.feed(letter), model.feed(letter));
        }
        due("script() of " + text, x.script(), model.script());
    }

    private String line(char kind) {
        int p = random.nextInt(Math.max(x.count(0), 1) + (random.nextInt(8) == 0 ? 1 : 0));
        int t = random.nextInt(Math.max(x.count(1), 1));
        int n = random.nextInt(9) + (random.nextInt(8) == 0 ? 0 : 1);
        switch (kind) {
            case 'p': return "p " + "abcxyz".substring(n % 6, Math.min(n % 6 + 1 + n % 3, 6)) + " " + 100 * n;
            case 't': case 'd': return kind + " 0" + n;
            case 'w': case 'l': return kind + " " + p + " " + t + " " + n;
            case 'c': return "c " + p + " " + t + " " + n + " " + random.nextInt(32);
            case 'r': case 'k': return kind + " " + t;
            case 'g': return "g " + t + " " + p;
            case 's': return "s " + t + " " + random.nextInt(10);
            default: return "u " + t + " " + n;
        }
    }

    /** Asks more than 512 calls may: what the class answers then is free, but nothing says that it differs. */
    private boolean allAnswersAlike() {
        StringBuilder differs = new StringBuilder();
        for (int what = 0; what < 10; what++) {
            for (int n = 0; n < 12; n++) {
                note(differs, x.personOf(n, what), model.personOf(n, what));
                note(differs, x.toolOf(n, what), model.toolOf(n, what));
                note(differs, x.share(what, n), model.share(what, n));
                note(differs, x.told(n, what), model.told(n, what));
                for (int i = 0; i < 9; i++) {
                    note(differs, x.link(n, i, what), model.link(n, i, what));
                    note(differs, x.seen(n, i, what), model.seen(n, i, what));
                    note(differs, x.claimOf(n, i, what), model.claimOf(n, i, what));
                }
            }
            note(differs, x.count(what), model.count(what));
            note(differs, x.swaps(what), model.swaps(what));
            note(differs, x.why(what), model.why(what));
            note(differs, x.ahead(7 * what, what % 2), model.ahead(7 * what, what % 2));
        }
        return differs.length() == 0;
    }

    private static void note(StringBuilder differs, int got, int want) {
        if (got != want) {
            differs.append('x');
        }
    }
}
