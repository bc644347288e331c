/** Promises 1 to 11. */
public final class PersonsAndToolsTest {

    public static void main(String[] args) {
        promise1NewObject();
        promise2Person();
        promise3Tool();
        promise4Wish();
        promise5Fund();
        promise5FundBehindDebt();
        promise6PersonOf();
        promise7ToolOf();
        promise8Link();
        promise9Seen();
        promise10ClaimOf();
        promise11Ranked();
        Due.end();
    }

    private static void promise1NewObject() {
        LeaseOffice x = new LeaseOffice();
        for (int what = 0; what <= 8; what++) {
            Due.is("new: count(" + what + ")", x.count(what), 0);
        }
        Due.is("new: personOf", x.personOf(0, 0), Due.BAD);
        Due.is("new: toolOf", x.toolOf(0, 0), Due.BAD);
        Due.is("new: ranked", x.ranked(0), Due.NOT);
        Due.is("new: why", x.why(0), Due.NOT);
        Due.is("new: back", x.back(), Due.STATE);
        Due.is("new: swaps(0)", x.swaps(0), 0);
        Due.is("new: swaps(1)", x.swaps(1), Due.NOT);
        Due.is("new: swaps(2)", x.swaps(2), 0);
        Due.is("new: swaps(3)", x.swaps(3), 0);
        Due.is("new: ahead(0, 0)", x.ahead(0, 0), 0);
        Due.is("new: ahead(0, 1)", x.ahead(0, 1), 0);
        Due.is("new: tells", x.tells(5, 0), Due.EMPTY);
        LeaseOffice y = new LeaseOffice();
        y.person(1, 5);
        Due.is("another object has its own memory", x.count(0), 0);
    }

    private static void promise2Person() {
        LeaseOffice x = new LeaseOffice();
        int[] wrongNames = {0, -1, 27, 54, 729, 730, 27 * 26, 729 * 2, 729 + 27 * 27, 19683, 19682 + 27,
            Integer.MAX_VALUE, Integer.MIN_VALUE};
        for (int name : wrongNames) {
            Due.is("person(" + name + ", 1)", x.person(name, 1), Due.BAD);
        }
        Due.is("zzz", x.person(Due.name("zzz"), 9999), 0);
        Due.is("a", x.person(Due.name("a"), 0), 1);
        Due.is("aa", x.person(28, 1), 2);
        Due.is("aaa", x.person(729 + 28, 1), 3);
        Due.is("purse above", x.person(3, 10000), Due.BAD);
        Due.is("purse below", x.person(3, -1), Due.BAD);
        Due.is("purse far below", x.person(3, Integer.MIN_VALUE), Due.BAD);
        Due.is("alike", x.person(1, 5), Due.STATE);
        Due.is("alike, but purse BAD", x.person(1, -5), Due.BAD);
        Due.is("what was refused changes nothing", x.count(0), 4);
        for (int i = 4; i < 12; i++) {
            Due.is("person " + i, x.person(Due.name("b") + i, i), i);
        }
        Due.is("a thirteenth", x.person(Due.name("y"), 1), Due.FULL);
        Due.is("a thirteenth that is alike", x.person(1, 1), Due.STATE);
        Due.is("a thirteenth that is BAD", x.person(0, 1), Due.BAD);
        Due.is("twelve", x.count(0), 12);
    }

    private static void promise3Tool() {
        LeaseOffice x = new LeaseOffice();
        Due.is("worth 0", x.tool(0), Due.BAD);
        Due.is("worth 100", x.tool(100), Due.BAD);
        Due.is("worth below", x.tool(Integer.MIN_VALUE), Due.BAD);
        Due.is("worth 1", x.tool(1), 0);
        Due.is("worth 99", x.tool(99), 1);
        for (int i = 2; i < 10; i++) {
            Due.is("tool " + i, x.tool(5), i);
        }
        Due.is("an eleventh", x.tool(5), Due.FULL);
        Due.is("an eleventh that is BAD", x.tool(0), Due.BAD);
        Due.is("ten", x.count(1), 10);
    }

    private static void promise4Wish() {
        LeaseOffice x = Due.officeOf(5, 5);
        x.tool(3);
        x.tool(4);
        Due.is("at first", x.wish(1, 1, 9), 0);
        Due.is("what it was", x.wish(1, 1, 0), 9);
        Due.is("0 again", x.wish(1, 1, 4), 0);
        Due.is("another tool", x.wish(1, 0, 1), 0);
        Due.is("another person", x.wish(0, 1, 1), 0);
        Due.is("v 10", x.wish(1, 1, 10), Due.BAD);
        Due.is("v -1", x.wish(1, 1, -1), Due.BAD);
        Due.is("no person", x.wish(2, 1, 1), Due.BAD);
        Due.is("no person below", x.wish(-1, 1, 1), Due.BAD);
        Due.is("no tool", x.wish(1, 2, 1), Due.BAD);
        Due.is("no tool below", x.wish(1, -1, 1), Due.BAD);
        Due.is("refused ones change nothing", x.wish(1, 1, 1), 4);
    }

    private static void promise5Fund() {
        LeaseOffice x = Due.officeOf(9000, 0);
        Due.is("n 0", x.fund(0, 0), Due.BAD);
        Due.is("n 1000", x.fund(0, 1000), Due.BAD);
        Due.is("n below", x.fund(0, -1), Due.BAD);
        Due.is("no person", x.fund(2, 1), Due.BAD);
        Due.is("no person below", x.fund(-1, 1), Due.BAD);
        Due.is("999", x.fund(0, 999), 9999);
        Due.is("above 9999", x.fund(0, 1), Due.STATE);
        Due.is("stays", x.personOf(0, 1), 9999);
        Due.is("1", x.fund(1, 1), 1);
        x.tool(50);
        x.lease(0, 0, 3);
        Due.is("room by a deposit", x.fund(0, 50), 9999);
        Due.is("no more room", x.fund(0, 1), Due.STATE);
        x.returned(0);
        Due.is("beyond by what comes back", x.personOf(0, 1), 10049);
        Due.is("beyond", x.fund(0, 1), Due.STATE);
        Due.is("the till has none of it", x.count(5), 0);
    }

    private static void promise5FundBehindDebt() {
        LeaseOffice x = Due.officeOf(90, 0);
        x.tool(90);
        x.lease(0, 0, 5);
        x.use(0, 9);
        Due.is("blamed", x.look(0), 1);
        Due.is("debt", x.personOf(0, 4), 90);
        Due.is("part of the debt", x.fund(0, 40), 0);
        Due.is("debt left", x.personOf(0, 4), 50);
        Due.is("till has it", x.count(5), 40);
        Due.is("debt, then purse", x.fund(0, 60), 10);
        Due.is("no debt left", x.personOf(0, 4), 0);
        Due.is("till has the debt alone", x.count(5), 90);
        Due.is("purse", x.personOf(0, 1), 10);
    }

    private static void promise6PersonOf() {
        LeaseOffice x = Due.officeOf(70, 200);
        Due.is("name", x.personOf(1, 0), 2);
        Due.is("purse", x.personOf(1, 1), 200);
        Due.is("trust", x.personOf(1, 2), 50);
        for (int what = 3; what <= 5; what++) {
            Due.is("at first " + what, x.personOf(1, what), 0);
        }
        Due.is("place in rank", x.personOf(1, 6), 1);
        Due.is("claims", x.personOf(1, 7), 0);
        x.tool(20);
        x.tool(30);
        x.tool(40);
        x.lease(0, 0, 1);
        x.lease(0, 1, 9);
        x.claim(0, 2, 101);
        x.claim(1, 2, 101);
        x.claim(1, 1, 101);
        Due.is("tools", x.personOf(0, 5), 2);
        Due.is("claims", x.personOf(0, 7), 1);
        Due.is("claims on two lists", x.personOf(1, 7), 2);
        x.use(0, 9);
        x.use(1, 4);
        x.days(3);
        Due.is("fee", x.returned(0), 6);
        Due.is("late", x.personOf(0, 3), 1);
        Due.is("trust", x.personOf(0, 2), 36);
        Due.is("place behind", x.personOf(0, 6), 1);
        Due.is("place ahead", x.personOf(1, 6), 0);
        Due.is("purse: 20 paid, of them none owed, 14 came back", x.personOf(0, 1), 14);
        Due.is("look at the other", x.look(1), 1);
        Due.is("purse 14 less 13", x.personOf(0, 1), 1);
        x.use(1, 5);
        x.look(1);
        Due.is("debt 16 less 1", x.personOf(0, 4), 15);
        Due.is("what 8", x.personOf(0, 8), Due.BAD);
        Due.is("what -1", x.personOf(0, -1), Due.BAD);
        Due.is("no person", x.personOf(2, 0), Due.BAD);
        Due.is("no person below", x.personOf(-1, 0), Due.BAD);
    }

    private static void promise7ToolOf() {
        LeaseOffice x = Due.officeOf(200, 200);
        x.days(4);
        x.tool(25);
        int[] atOffice = {25, 0, Due.NOT, Due.NOT, Due.NOT, 0, 0, 0, 1};
        for (int what = 0; what <= 8; what++) {
            Due.is("at the office " + what, x.toolOf(0, what), atOffice[what]);
        }
        x.lease(1, 0, 7);
        x.days(2);
        x.use(0, 3);
        x.claim(0, 0, 11);
        x.look(0);
        int[] leased = {25, 3, 1, 4, 11, 25, 1, 1, 2};
        for (int what = 0; what <= 8; what++) {
            Due.is("leased " + what, x.toolOf(0, what), leased[what]);
        }
        x.waive(0, 0);
        x.returned(0);
        int[] back = {25, 3, Due.NOT, Due.NOT, Due.NOT, 0, 0, 1, 3};
        for (int what = 0; what <= 8; what++) {
            Due.is("back " + what, x.toolOf(0, what), back[what]);
        }
        Due.is("what 9", x.toolOf(0, 9), Due.BAD);
        Due.is("what -1", x.toolOf(0, -1), Due.BAD);
        Due.is("no tool", x.toolOf(1, 0), Due.BAD);
        Due.is("no tool below", x.toolOf(-1, 0), Due.BAD);
    }

    private static void promise8Link() {
        LeaseOffice x = Due.officeOf(500, 500);
        x.tool(10);
        Due.is("none yet", x.link(0, 0, 0), Due.NOT);
        x.days(2);
        x.lease(1, 0, 5);
        Due.is("person", x.link(0, 0, 0), 1);
        Due.is("since", x.link(0, 0, 1), 2);
        Due.is("till: open", x.link(0, 0, 2), Due.NOT);
        x.days(1);
        x.returned(0);
        Due.is("till", x.link(0, 0, 2), 3);
        Due.is("i 1", x.link(0, 1, 0), Due.NOT);
        Due.is("i below 0", x.link(0, -1, 0), Due.BAD);
        Due.is("what 3", x.link(0, 0, 3), Due.BAD);
        Due.is("what 3 of none", x.link(0, 7, 3), Due.BAD);
        Due.is("what -1", x.link(0, 0, -1), Due.BAD);
        Due.is("no tool", x.link(1, 0, 0), Due.BAD);
        Due.is("no tool below", x.link(-1, 0, 0), Due.BAD);
        for (int i = 0; i < 8; i++) {
            x.days(1);
            x.lease(i % 2, 0, 5);
            x.returned(0);
        }
        Due.is("eight are kept", x.toolOf(0, 7), 8);
        Due.is("the first is gone", x.link(0, 0, 1), 4);
        Due.is("the latest", x.link(0, 7, 1), 11);
        Due.is("the latest's person", x.link(0, 7, 0), 1);
        Due.is("beyond", x.link(0, 8, 0), Due.NOT);
        Due.is("far beyond", x.link(0, Integer.MAX_VALUE, 0), Due.NOT);
    }

    private static void promise9Seen() {
        LeaseOffice x = Due.officeOf(500);
        x.days(3);
        x.tool(10);
        Due.is("the first: day", x.seen(0, 0, 0), 3);
        Due.is("the first: wear", x.seen(0, 0, 1), 0);
        Due.is("i 1", x.seen(0, 1, 0), Due.NOT);
        x.lease(0, 0, 30);
        for (int i = 1; i <= 6; i++) {
            x.days(1);
            x.use(0, 1);
            x.look(0);
        }
        Due.is("six are kept", x.toolOf(0, 8), 6);
        Due.is("the first is gone: day", x.seen(0, 0, 0), 4);
        Due.is("the first is gone: wear", x.seen(0, 0, 1), 1);
        Due.is("the latest: day", x.seen(0, 5, 0), 9);
        Due.is("the latest: wear", x.seen(0, 5, 1), 6);
        Due.is("beyond", x.seen(0, 6, 0), Due.NOT);
        Due.is("what 2", x.seen(0, 0, 2), Due.BAD);
        Due.is("what -1", x.seen(0, 0, -1), Due.BAD);
        Due.is("i below 0", x.seen(0, -1, 0), Due.BAD);
        Due.is("no tool", x.seen(1, 0, 0), Due.BAD);
        Due.is("no tool below", x.seen(-1, 0, 0), Due.BAD);
    }

    private static void promise10ClaimOf() {
        LeaseOffice x = Due.officeOf(5, 5, 5, 5);
        x.tool(10);
        Due.is("none yet", x.claimOf(0, 0, 0), Due.NOT);
        x.days(7);
        x.claim(3, 0, 230);
        Due.is("person", x.claimOf(0, 0, 0), 3);
        Due.is("urgency", x.claimOf(0, 0, 1), 2);
        Due.is("days", x.claimOf(0, 0, 2), 30);
        Due.is("the day of it", x.claimOf(0, 0, 3), 7);
        Due.is("beyond", x.claimOf(0, 1, 0), Due.NOT);
        Due.is("i below 0", x.claimOf(0, -1, 0), Due.BAD);
        Due.is("what 4", x.claimOf(0, 0, 4), Due.BAD);
        Due.is("what -1", x.claimOf(0, 0, -1), Due.BAD);
        Due.is("what 4 beyond", x.claimOf(0, 1, 4), Due.BAD);
        Due.is("no tool", x.claimOf(1, 0, 0), Due.BAD);
        Due.is("no tool below", x.claimOf(-1, 0, 0), Due.BAD);
    }

    private static void promise11Ranked() {
        LeaseOffice x = new LeaseOffice();
        String[] names = {"b", "ab", "aba", "aa", "a", "z", "zz", "ba"};
        for (String name : names) {
            x.person(Due.name(name), 500);
        }
        int[] byName = {4, 3, 1, 2, 0, 7, 5, 6};
        for (int k = 0; k < byName.length; k++) {
            Due.is("by name " + k, x.ranked(k), byName[k]);
            Due.is("its place " + k, x.personOf(byName[k], 6), k);
        }
        Due.is("beyond", x.ranked(8), Due.NOT);
        Due.is("far beyond", x.ranked(Integer.MAX_VALUE), Due.NOT);
        Due.is("k below 0", x.ranked(-1), Due.BAD);
        x.tool(10);
        x.lease(6, 0, 1);
        x.returned(0);
        Due.is("more trust", x.ranked(0), 6);
        x.lease(4, 0, 1);
        x.days(2);
        x.returned(0);
        Due.is("less trust", x.ranked(7), 4);
        for (int i = 0; i < 5; i++) {
            x.lease(4, 0, 1);
            x.returned(0);
        }
        Due.is("trust as at first", x.personOf(4, 2), 50);
        Due.is("the same trust, more late", x.ranked(7), 4);
        Due.is("the next by name", x.ranked(1), 3);
    }
}
