/** Promises 22 to 26. */
public final class ThoughtTest {

    public static void main(String[] args) {
        promise22Next();
        promise22SuspectsAndOwed();
        promise23Share();
        promise24Swaps();
        promise24Best();
        promise24Rings();
        promise24All();
        promise25Ahead();
        promise26JudgeRanked();
        promise26JudgeList();
        Due.end();
    }

    private static void promise22Next() {
        LeaseOffice x = Due.officeOf(30, 10, 30);
        x.tool(20);
        Due.is("no claims", x.told(0, 0), Due.NOT);
        x.claim(1, 0, 901);
        Due.is("no purse", x.told(0, 0), Due.NOT);
        x.claim(2, 0, 401);
        Due.is("at the office, too", x.told(0, 0), 2);
        x.claim(0, 0, 501);
        Due.is("the more urgent one", x.told(0, 0), 0);
        x.lease(0, 0, 3);
        Due.is("the holder's purse as it is", x.told(0, 0), 2);
        x.fund(0, 10);
        Due.is("the holder himself", x.told(0, 0), 0);
        Due.is("nothing changes", x.toolOf(0, 6), 3);
        x.use(0, 9);
        Due.is("wear as it is", x.told(0, 0), Due.NOT);
    }

    private static void promise22SuspectsAndOwed() {
        LeaseOffice x = Due.officeOf(100, 100, 100);
        x.tool(20);
        Due.is("nobody", x.told(0, 1), 0);
        Due.is("nothing owed", x.told(0, 2), 0);
        x.lease(2, 0, 3);
        Due.is("without more wear, too", x.told(0, 1), 4);
        x.pass(0, 0);
        Due.is("both", x.told(0, 1), 5);
        x.look(0);
        Due.is("the open one", x.told(0, 1), 1);
        Due.is("nothing owed yet", x.told(0, 2), 0);
        x.days(4);
        Due.is("3 a day", x.told(0, 2), 3);
        x.days(9);
        Due.is("the deposit at most", x.told(0, 2), 20);
        Due.is("still leased", x.toolOf(0, 2), 0);
        x.returned(0);
        Due.is("at the office 0", x.told(0, 2), 0);
        Due.is("open at that look", x.told(0, 1), 1);
        x.look(0);
        Due.is("closed by now", x.told(0, 1), 0);
        Due.is("what 3", x.told(0, 3), Due.BAD);
        Due.is("what -1", x.told(0, -1), Due.BAD);
        Due.is("no tool", x.told(1, 0), Due.BAD);
        Due.is("no tool below", x.told(-1, 0), Due.BAD);
    }

    private static void promise23Share() {
        LeaseOffice x = Due.officeOf(100, 100, 0);
        x.tool(50);
        Due.is("nothing", x.share(0, 0), 0);
        x.lease(1, 0, 9);
        x.pass(0, 0);
        Due.is("no more wear", x.share(0, 0), 0);
        x.use(0, 5);
        Due.is("27 over 2: the first one 14", x.share(0, 1), 14);
        Due.is("the second 13", x.share(0, 0), 13);
        Due.is("who isn't blamed", x.share(0, 2), 0);
        Due.is("nothing changes", x.personOf(1, 1), 100);
        x.look(0);
        Due.is("as told", x.personOf(1, 1), 86);
        Due.is("no more", x.share(0, 1), 0);
        x.use(0, 4);
        x.tool(99);
        x.fund(0, 100);
        x.lease(0, 1, 3);
        x.pass(1, 2);
        Due.is("what he would owe, too", x.share(0, 0), 22);
        Due.is("no person", x.share(0, 3), Due.BAD);
        Due.is("no person below", x.share(0, -1), Due.BAD);
        Due.is("no tool", x.share(2, 0), Due.BAD);
        Due.is("no tool below", x.share(-1, 0), Due.BAD);
    }

    /** Persons 0, 1, 2 hold tools 0, 1, 2 of worth 10 till day 5, and have 10 coins more. */
    private static LeaseOffice threeHolders() {
        LeaseOffice x = Due.officeOf(20, 20, 20);
        for (int i = 0; i < 3; i++) {
            x.tool(10);
            x.lease(i, i, 5);
        }
        return x;
    }

    private static void promise24Swaps() {
        LeaseOffice x = threeHolders();
        Due.is("none", x.swaps(0), 0);
        x.wish(0, 1, 3);
        x.wish(1, 0, 2);
        x.wish(1, 2, 5);
        x.wish(2, 1, 1);
        Due.is("two", x.swaps(0), 2);
        x.tool(10);
        x.lease(1, 3, 5);
        Due.is("purse of 1 is 0: it can't have 0, but 2 can have 1", x.swaps(0), 1);
        Due.is("the lesser first", x.swaps(1), 12);
        x.days(6);
        Due.is("none beyond due", x.swaps(0), 0);
        Due.is("nor best", x.swaps(1), Due.NOT);
        Due.is("what 4", x.swaps(4), Due.BAD);
        Due.is("what -1", x.swaps(-1), Due.BAD);
    }

    private static void promise24Best() {
        LeaseOffice x = threeHolders();
        x.wish(0, 2, 4);
        x.wish(2, 0, 1);
        Due.is("0 and 2", x.swaps(1), 2);
        x.wish(1, 2, 3);
        x.wish(2, 1, 2);
        Due.is("of the same gain the least", x.swaps(1), 2);
        x.wish(1, 2, 4);
        Due.is("of more gain", x.swaps(1), 12);
        x.wish(2, 2, 1);
        Due.is("0 and 2: one is no more wished", x.swaps(0), 1);
        x.wish(1, 1, 4);
        Due.is("none is left", x.swaps(1), Due.NOT);
    }

    private static void promise24Rings() {
        LeaseOffice x = threeHolders();
        x.wish(0, 1, 1);
        x.wish(1, 2, 1);
        Due.is("no ring yet", x.swaps(2), 0);
        x.wish(2, 0, 1);
        Due.is("a ring", x.swaps(2), 1);
        x.days(9);
        Due.is("wishes alone", x.swaps(2), 1);
        x.wish(0, 2, 1);
        x.wish(2, 1, 1);
        x.wish(1, 0, 1);
        Due.is("both ways about", x.swaps(2), 2);
        x.wish(0, 0, 1);
        Due.is("more is meant", x.swaps(2), 0);
        x.wish(0, 0, 0);
        x.days(1);
        x.tool(5);
        x.lease(0, 3, 9);
        x.wish(1, 3, 3);
        x.wish(2, 3, 3);
        Due.is("by either tool of a holder", x.swaps(2), 4);
        x.returned(0);
        Due.is("one at the office is none", x.swaps(2), 2);
    }

    private static void promise24All() {
        LeaseOffice x = Due.officeOf(100, 50);
        Due.is("purses", x.swaps(3), 150);
        x.tool(30);
        x.lease(0, 0, 1);
        Due.is("deposits", x.swaps(3), 150);
        x.days(3);
        x.use(0, 5);
        x.returned(0);
        Due.is("the till", x.swaps(3), 150);
        x.fund(1, 7);
        Due.is("more", x.swaps(3), 157);
    }

    private static void promise25Ahead() {
        LeaseOffice x = Due.officeOf(300);
        x.tool(20);
        x.tool(9);
        x.tool(50);
        x.lease(0, 0, 3);
        x.lease(0, 1, 10);
        Due.is("not yet", x.ahead(3, 0), 0);
        Due.is("one", x.ahead(4, 0), 1);
        Due.is("its fee", x.ahead(4, 1), 3);
        Due.is("two", x.ahead(12, 0), 2);
        Due.is("the deposit at most, and 2", x.ahead(12, 1), 22);
        Due.is("far", x.ahead(60, 1), 29);
        x.days(4);
        Due.is("now", x.ahead(0, 0), 1);
        Due.is("now's fee", x.ahead(0, 1), 3);
        Due.is("nothing changes", x.count(4), 4);
        Due.is("n 61", x.ahead(61, 0), Due.BAD);
        Due.is("n -1", x.ahead(-1, 0), Due.BAD);
        Due.is("what 2", x.ahead(0, 2), Due.BAD);
        Due.is("what -1", x.ahead(0, -1), Due.BAD);
    }

    private static void row(LeaseOffice x, int holder, int... items) {
        x.row(holder, items.length);
        for (int i = 0; i < items.length; i++) {
            x.put(holder, i, items[i]);
        }
    }

    private static void promise26JudgeRanked() {
        LeaseOffice x = new LeaseOffice();
        x.row(0, 0);
        Due.is("nobody at all", x.judge(0, -1), Due.NOT);
        x.row(0, 1);
        Due.is("beyond", x.judge(0, -1), 0);
        x.person(3, 1);
        x.person(1, 1);
        x.person(2, 1);
        row(x, 0, 1, 2, 0);
        Due.is("all", x.judge(0, -1), Due.NOT);
        row(x, 0, 1, 2);
        Due.is("there are more", x.judge(0, -1), 2);
        row(x, 0, 1, 0, 2);
        Due.is("otherwise", x.judge(0, -1), 1);
        row(x, 0, 1, 2, 0, 0);
        Due.is("beyond", x.judge(0, -1), 3);
        row(x, 0);
        Due.is("an empty row", x.judge(0, -1), 0);
        row(x, 0, -7);
        Due.is("no person at all", x.judge(0, -1), 0);
    }

    private static void promise26JudgeList() {
        LeaseOffice x = Due.officeOf(1, 1, 1);
        x.tool(5);
        x.claim(0, 0, 101);
        x.claim(2, 0, 201);
        row(x, 5, 2, 0);
        Due.is("all", x.judge(5, 0), Due.NOT);
        row(x, 5, 2, 1);
        Due.is("otherwise", x.judge(5, 0), 1);
        row(x, 5, 2);
        Due.is("there are more", x.judge(5, 0), 1);
        row(x, 5, 2, 0, 1);
        Due.is("beyond", x.judge(5, 0), 2);
        row(x, 5, 2, 0, 0);
        Due.is("beyond, told 0", x.judge(5, 0), 2);
        row(x, 5, 2, 0, Due.NOT);
        Due.is("beyond, told NOT", x.judge(5, 0), 2);
        Due.is("no tool", x.judge(5, 1), Due.BAD);
        Due.is("no tool below", x.judge(5, -2), Due.BAD);
        Due.is("no holder", x.judge(6, 0), Due.BAD);
        Due.is("no holder below", x.judge(-1, 0), Due.BAD);
        Due.is("no holder and no tool", x.judge(4, 1), Due.BAD);
        Due.is("nothing", x.judge(4, 0), Due.EMPTY);
        x.hold(4, 2, 0);
        Due.is("a tool", x.judge(4, 0), Due.SORT);
        x.hold(4, 1, 0);
        Due.is("a person", x.judge(4, -1), Due.SORT);
    }
}
