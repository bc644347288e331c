/** Promises 27 to 35. */
public final class TextsAndHoldersTest {

    public static void main(String[] args) {
        promise27Feed();
        promise28ScriptLines();
        promise28ScriptForm();
        promise28ScriptRefused();
        promise28ScriptUndone();
        promise29And30Image();
        promise30BackAndDebt();
        promise30WhoComesAfterIt();
        promise30BackAndHolders();
        promise31Hold();
        promise32Row();
        promise33Put();
        promise34Tells();
        promise35Count();
        Due.end();
    }

    private static void promise27Feed() {
        LeaseOffice x = new LeaseOffice();
        Due.is("-1", x.feed(-1), Due.BAD);
        Due.is("256", x.feed(256), Due.BAD);
        Due.is("0", x.feed(0), 1);
        Due.is("255", x.feed(255), 2);
        for (int i = 3; i <= 120; i++) {
            Due.is("feed " + i, x.feed('a'), i);
        }
        Due.is("121", x.feed('a'), Due.FULL);
        Due.is("121, BAD", x.feed(256), Due.BAD);
        Due.is("120", x.count(7), 120);
        x.script();
        Due.is("empty then", x.feed('a'), 1);
    }

    private static void promise28ScriptLines() {
        LeaseOffice x = new LeaseOffice();
        Due.is("p, t, w", Due.script(x, "p bc 120;p a 100;t 20;t 030;w 0 1 7;w 1 0 9"), 6);
        Due.is("name", x.personOf(0, 0), Due.name("bc"));
        Due.is("purse", x.personOf(1, 1), 100);
        Due.is("worth", x.toolOf(1, 0), 30);
        Due.is("wish", x.wish(0, 1, 7), 7);
        Due.is("d, l, c", Due.script(x, "d 3;l 0 0 10;l 1 1 12;c 0 1 4 21"), 4);
        Due.is("due", x.toolOf(0, 4), 13);
        Due.is("holder", x.toolOf(1, 2), 1);
        Due.is("claim: urgency", x.claimOf(1, 0, 1), 4);
        Due.is("claim: days", x.claimOf(1, 0, 2), 21);
        Due.is("claim: day", x.claimOf(1, 0, 3), 3);
        Due.is("s, u, k", Due.script(x, "s 0 1;u 0 4;k 0"), 3);
        Due.is("swapped", x.toolOf(0, 2), 1);
        Due.is("worn", x.toolOf(0, 1), 4);
        Due.is("looked at", x.toolOf(0, 8), 2);
        Due.is("g, r", Due.script(x, "g 0 0;r 0"), 2);
        Due.is("passed", x.link(0, 2, 0), 0);
        Due.is("returned", x.toolOf(0, 2), Due.NOT);
        Due.is("names of 3", Due.script(x, "p zzz 999"), 1);
        Due.is("zzz", x.personOf(2, 0), 19682);
        Due.is("a full tape", Due.script(x, "k 0;k 0;k 0;k 0;k 0;k 0;k 0;k 0;k 0;k 0;k 0;k 0;k 0;k 0;k 0;"
                + "k 0;k 0;k 0;k 0;k 0;k 0;k 0;k 0;k 0;k 0;k 0;k 0;k 0;k 0;k 00"), 30);
    }

    private static void promise28ScriptForm() {
        LeaseOffice x = new LeaseOffice();
        String[] texts = {"", "p", "p ", "p a", "p a ", "t 5;", "c 0 0 1", "w 0 0 ", "x", " p a 5", "P a 5", "pa 5",
            "p  a 5", "p A 5", "p 1 5", "p abcd 5", "p a  5", "p ab1", "p a x", "p a 5 ", "p a 5 5", "t 1000", "t x",
            "t -5", "t 5;;t 5", "t 5; t 5", "t 5;x", "t 5,t 5", "c 0 0 1;", "c 0 0 1 1 1", "w 0 0 0 0", "k 0 0",
            "r 0 0", "g 0 0 0", "s 0 0 0", "u 0 0 0", "d 0 0", "l 0 0 0 0", "g 0;", ";t 5", "t 5;t", "t {", "p { 1",
            "p ` 1", "t /", "t :", "t 5;p ab", "p abc5"};
        int[] places = {0, 1, 2, 3, 4, 4, 7, 6, 0, 0, 0, 1, 2, 2, 2, 5, 4, 4, 4, 5, 5, 5, 2, 2, 4, 4, 4, 3, 7, 9, 7, 3,
            3, 5, 5, 5, 3, 7, 3, 0, 5, 2, 2, 2, 2, 2, 8, 5};
        for (int i = 0; i < texts.length; i++) {
            Due.is("\"" + texts[i] + "\"", Due.script(x, texts[i]), -1000 - places[i]);
            Due.is("\"" + texts[i] + "\": the tape", x.count(7), 0);
        }
        Due.is("nothing was done", x.count(0) + x.count(1), 0);
        x.feed('t');
        x.feed(0);
        Due.is("a byte of 0", x.script(), -1001);
        x.feed('t');
        x.feed(' ');
        x.feed(255);
        Due.is("a byte of 255", x.script(), -1002);
        String long120 = "p abc 999;p abd 999;p abe 999;p abf 999;p abg 999;p abh 999;"
                + "p abi 999;p abj 999;p abk 999;p abl 999;p abm 999;p abn 999;";
        Due.is("120 bytes that end too early", Due.script(x, long120), -1120);
    }

    private static void promise28ScriptRefused() {
        LeaseOffice x = Due.officeOf(50, 5);
        x.tool(20);
        x.tool(20);
        x.lease(0, 0, 5);
        String[] lines = {"p a 5", "t 0", "t 100", "w 0 2 1", "w 0 0 10", "l 0 0 5", "l 1 1 5", "l 0 1 0", "l 0 1 31",
            "c 0 0 1 1", "c 1 0 10 1", "c 1 0 1 0", "c 1 0 1 31", "c 1 0 0 105", "c 1 0 1 131", "c 2 0 1 1", "r 1",
            "r 2", "g 0 0", "g 0 1", "g 1 1", "s 0 0", "s 0 1", "u 1 1", "u 0 0", "u 0 10", "k 2", "d 0", "d 100"};
        for (String line : lines) {
            Due.is(line, Due.script(x, line), -2000);
            Due.is("d 1;" + line, Due.script(x, "d 1;" + line + ";d 1"), -2001);
        }
        Due.is("no day went", x.count(4), 0);
        Due.is("no why", x.why(0), Due.NOT);
        Due.is("the third", Due.script(x, "t 5;t 5;t 0;t 0"), -2002);
        Due.is("form goes ahead of what is refused", Due.script(x, "t 0;t 5;t"), -1009);
        Due.is("all tools as before", x.count(1), 2);
    }

    private static void promise28ScriptUndone() {
        LeaseOffice x = Due.officeOf(100, 100);
        x.tool(20);
        x.tool(30);
        x.lease(0, 0, 5);
        x.claim(1, 0, 203);
        x.lease(0, 0, 5);
        x.hold(0, 1, 1);
        String before = stateOf(x);
        Due.is("all sorts of lines, then one that is refused",
                Due.script(x, "p c 9;t 5;w 0 1 3;l 1 1 4;c 0 1 5 5;u 0 5;d 9;k 0;r 0;g 1 0;u 1 2;k 1;s 0 0"), -2009);
        Due.is("all is as it was", stateOf(x).equals(before) ? 1 : 0, 1);
        Due.is("the same without the lines beyond due",
                Due.script(x, "p c 9;t 5;w 0 1 3;l 1 1 4;c 0 1 5 5;u 0 5;k 0;g 1 0;r 0;s 0 0"), -2009);
        Due.is("all is as it was", stateOf(x).equals(before) ? 1 : 0, 1);
        x.tool(7);
        Due.is("a tool that comes now is a new one", x.wish(0, 2, 0), 0);
    }

    /** All that the face tells of persons, tools and the office. */
    static String stateOf(LeaseOffice x) {
        StringBuilder all = new StringBuilder();
        for (int p = 0; p < 12; p++) {
            for (int what = 0; what < 8; what++) {
                all.append(x.personOf(p, what)).append(' ');
            }
        }
        for (int t = 0; t < 10; t++) {
            for (int what = 0; what < 9; what++) {
                all.append(x.toolOf(t, what)).append(' ');
            }
            for (int i = 0; i < 8; i++) {
                for (int what = 0; what < 3; what++) {
                    all.append(x.link(t, i, what)).append(' ');
                    all.append(x.seen(t, i, what)).append(' ');
                    all.append(x.claimOf(t, i, what)).append(' ');
                    all.append(x.told(t, what)).append(' ');
                }
                all.append(x.claimOf(t, i, 3)).append(' ');
            }
            for (int p = 0; p < 12; p++) {
                all.append(x.share(t, p)).append(' ');
            }
        }
        for (int what = 0; what < 9; what++) {
            all.append(x.count(what)).append(' ').append(x.swaps(what)).append(' ').append(x.why(what)).append(' ');
        }
        return all.toString();
    }

    private static void promise29And30Image() {
        LeaseOffice x = Due.officeOf(100, 100);
        Due.is("none", x.back(), Due.STATE);
        x.tool(20);
        x.lease(0, 0, 3);
        x.pass(0, 1);
        x.use(0, 2);
        x.look(0);
        x.claim(0, 0, 402);
        x.wish(1, 0, 6);
        x.days(8);
        x.lease(0, 0, 1);
        Due.is("day", x.image(), 8);
        String before = stateOf(x);
        x.returned(0);
        x.person(9, 9);
        x.tool(9);
        x.wish(1, 0, 1);
        x.wish(0, 1, 5);
        x.fund(0, 9);
        x.days(5);
        x.lease(1, 0, 2);
        x.swap(0, 1);
        Due.is("laid back", x.back(), 8);
        Due.is("all is as it was", stateOf(x).equals(before) ? 1 : 0, 1);
        Due.is("a wish, too", x.wish(1, 0, 2), 6);
        x.tool(33);
        Due.is("no wish for a new tool", x.wish(0, 1, 1), 0);
        Due.is("again", x.back(), 8);
        Due.is("all is as it was again", stateOf(x).equals(before) ? 1 : 0, 1);
        x.days(2);
        Due.is("a new image", x.image(), 10);
        x.days(2);
        Due.is("the new one", x.back(), 10);
    }

    private static void promise30BackAndDebt() {
        LeaseOffice x = Due.officeOf(50);
        x.tool(50);
        x.lease(0, 0, 9);
        x.use(0, 2);
        x.look(0);
        x.image();
        Due.is("debt", x.personOf(0, 4), 11);
        x.use(0, 4);
        x.look(0);
        Due.is("more debt", x.personOf(0, 4), 33);
        x.fund(0, 43);
        Due.is("none", x.personOf(0, 4), 0);
        Due.is("the till", x.count(5), 33);
        x.back();
        Due.is("as it was", x.personOf(0, 4), 11);
        Due.is("the till as it was", x.count(5), 0);
    }

    private static void promise30WhoComesAfterIt() {
        LeaseOffice x = new LeaseOffice();
        x.image();
        x.person(1, 40);
        x.tool(40);
        x.wish(0, 0, 5);
        x.claim(0, 0, 101);
        x.lease(0, 0, 1);
        x.use(0, 9);
        x.days(5);
        x.returned(0);
        x.lease(0, 0, 1);
        x.look(0);
        Due.is("nobody is left", x.back(), 0);
        Due.is("no persons", x.count(0), 0);
        x.person(2, 60);
        x.tool(30);
        int[] person = {2, 60, 50, 0, 0, 0, 0, 0};
        for (int what = 0; what < person.length; what++) {
            Due.is("a new person " + what, x.personOf(0, what), person[what]);
        }
        int[] tool = {30, 0, Due.NOT, Due.NOT, Due.NOT, 0, 0, 0, 1};
        for (int what = 0; what < tool.length; what++) {
            Due.is("a new tool " + what, x.toolOf(0, what), tool[what]);
        }
        Due.is("a new wish", x.wish(0, 0, 1), 0);
        Due.is("the first look", x.seen(0, 0, 1), 0);
        x.lease(0, 0, 5);
        x.use(0, 3);
        Due.is("blamed as if it were the first", x.told(0, 1), 1);
        Due.is("its share", x.share(0, 0), 10);
    }

    private static void promise30BackAndHolders() {
        LeaseOffice x = Due.officeOf(100, 100);
        x.tool(20);
        x.image();
        x.person(3, 3);
        x.tool(5);
        x.hold(0, 1, 2);
        x.hold(1, 2, 1);
        x.hold(2, 1, 1);
        x.hold(3, 2, 0);
        x.row(4, 3);
        x.put(4, 1, 77);
        x.feed('k');
        Due.is("five hold something", x.count(8), 5);
        x.back();
        Due.is("no such person", x.tells(0, 0), Due.EMPTY);
        Due.is("no such tool", x.tells(1, 0), Due.EMPTY);
        Due.is("a person", x.tells(2, 0), 1);
        Due.is("a tool", x.tells(3, 0), 0);
        Due.is("a row stays", x.put(4, 1, 0), 77);
        Due.is("the tape stays", x.count(7), 1);
        Due.is("three hold something", x.count(8), 3);
        x.person(3, 3);
        Due.is("it holds nothing still", x.tells(0, 0), Due.EMPTY);
    }

    private static void promise31Hold() {
        LeaseOffice x = Due.officeOf(1);
        x.tool(1);
        x.tool(2);
        Due.is("person", x.hold(0, 1, 0), 1);
        Due.is("no person", x.hold(0, 1, 1), Due.BAD);
        Due.is("no person below", x.hold(0, 1, -1), Due.BAD);
        Due.is("tool", x.hold(5, 2, 1), 1);
        Due.is("no tool", x.hold(5, 2, 2), Due.BAD);
        Due.is("no tool below", x.hold(5, 2, -1), Due.BAD);
        Due.is("what 3", x.hold(0, 3, 0), Due.BAD);
        Due.is("what -1", x.hold(0, -1, 0), Due.BAD);
        Due.is("no holder", x.hold(6, 0, 0), Due.BAD);
        Due.is("no holder below", x.hold(-1, 1, 0), Due.BAD);
        Due.is("refused ones change nothing", x.tells(5, 2), 2);
        Due.is("nothing, of any number", x.hold(5, 0, -99), 1);
        Due.is("nothing", x.tells(5, 0), Due.EMPTY);
        Due.is("the other", x.tells(0, 0), 0);
        x.row(0, 2);
        Due.is("in a row's place", x.hold(0, 1, 0), 1);
        Due.is("no row", x.put(0, 0, 1), LeaseOffice.VOID);
    }

    private static void promise32Row() {
        LeaseOffice x = Due.officeOf(1);
        Due.is("no holder", x.row(6, 1), Due.BAD);
        Due.is("no holder below", x.row(-1, 1), Due.BAD);
        Due.is("no holder and below 0", x.row(6, -1), Due.BAD);
        Due.is("61", x.row(0, 61), Due.BAD);
        Due.is("-1", x.row(0, -1), Due.SIZE);
        Due.is("far below", x.row(0, Integer.MIN_VALUE), Due.SIZE);
        Due.is("nothing yet", x.tells(0, 0), Due.EMPTY);
        Due.is("60", x.row(0, 60), 1);
        for (int i = 0; i < 60; i++) {
            Due.is("0 at first", x.put(0, i, i + 1), 0);
        }
        Due.is("refused", x.row(0, 61), Due.BAD);
        Due.is("stays", x.put(0, 59, 0), 60);
        Due.is("a new one", x.row(0, 60), 1);
        Due.is("0 again", x.put(0, 3, 1), 0);
        Due.is("0", x.row(0, 0), 1);
        Due.is("no place", x.put(0, 0, 1), LeaseOffice.VOID);
        Due.is("it holds something", x.count(8), 1);
    }

    private static void promise33Put() {
        LeaseOffice x = Due.officeOf(1);
        x.row(2, 2);
        x.hold(3, 1, 0);
        Due.is("0 at first", x.put(2, 1, Integer.MIN_VALUE), 0);
        Due.is("what it was", x.put(2, 1, 5), Integer.MIN_VALUE);
        Due.is("the other", x.put(2, 0, 5), 0);
        Due.is("no place", x.put(2, 2, 5), LeaseOffice.VOID);
        Due.is("no place below", x.put(2, -1, 5), LeaseOffice.VOID);
        Due.is("nothing", x.put(1, 0, 5), LeaseOffice.VOID);
        Due.is("a person", x.put(3, 0, 5), LeaseOffice.VOID);
        Due.is("no holder", x.put(6, 0, 5), LeaseOffice.VOID);
        Due.is("no holder below", x.put(-1, 0, 5), LeaseOffice.VOID);
        x.row(4, 2);
        Due.is("each row is its own", x.put(4, 1, 1), 0);
        Due.is("each row is its own", x.put(2, 1, 1), 5);
    }

    private static void promise34Tells() {
        LeaseOffice x = Due.officeOf(90, 90);
        x.tool(30);
        x.tool(40);
        x.lease(1, 0, 3);
        x.use(0, 2);
        x.look(0);
        x.hold(0, 1, 1);
        x.hold(1, 2, 0);
        x.hold(2, 2, 1);
        x.row(3, 2);
        int[][] due = {
            {1, 48, Due.SORT, Due.SORT},
            {0, Due.SORT, 30, 1},
            {1, Due.SORT, 40, Due.SORT},
            {Due.SORT, Due.SORT, Due.SORT, Due.SORT},
            {Due.EMPTY, Due.EMPTY, Due.EMPTY, Due.EMPTY}};
        for (int holder = 0; holder < due.length; holder++) {
            for (int as = 0; as < 4; as++) {
                Due.is("tells(" + holder + ", " + as + ")", x.tells(holder, as), due[holder][as]);
            }
            Due.is("as 4", x.tells(holder, 4), Due.BAD);
            Due.is("as -1", x.tells(holder, -1), Due.BAD);
        }
        Due.is("no holder", x.tells(6, 0), Due.BAD);
        Due.is("no holder below", x.tells(-1, 0), Due.BAD);
        x.returned(0);
        Due.is("at the office by now", x.tells(1, 3), Due.SORT);
    }

    private static void promise35Count() {
        LeaseOffice x = Due.officeOf(100, 18, 50);
        x.tool(18);
        x.tool(90);
        x.lease(1, 0, 1);
        x.lease(0, 1, 1);
        x.claim(2, 0, 101);
        x.claim(2, 1, 101);
        x.claim(0, 0, 101);
        x.days(2);
        x.use(0, 9);
        x.use(1, 9);
        x.look(0);
        x.look(1);
        x.feed('a');
        x.row(0, 0);
        x.hold(4, 2, 1);
        int[] due = {3, 2, 2, 3, 2, 10, 98, 1, 2};
        for (int what = 0; what < due.length; what++) {
            Due.is("count(" + what + ")", x.count(what), due[what]);
        }
        Due.is("count(9)", x.count(9), Due.BAD);
        Due.is("count(-1)", x.count(-1), Due.BAD);
        x.hold(4, 0, 0);
        Due.is("one holds something", x.count(8), 1);
        Due.is("a fee", x.returned(0), 2);
        Due.is("till 2 more", x.count(5), 12);
        Due.is("one leased, by nobody else", x.count(2), 1);
    }
}
