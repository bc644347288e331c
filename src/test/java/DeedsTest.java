/** Promises 12 to 21. */
public final class DeedsTest {

    public static void main(String[] args) {
        promise12Lease();
        promise13Claim();
        promise13ClaimOrder();
        promise14Waive();
        promise15Returned();
        promise15ReturnedAndOffered();
        promise15LookFirst();
        promise16Pass();
        promise17Swap();
        promise17SwapByPasses();
        promise18Use();
        promise19Look();
        promise19LookByLinks();
        promise19LinksKeptNoMore();
        promise20Days();
        promise21Why();
        Due.end();
    }

    private static void promise12Lease() {
        LeaseOffice x = Due.officeOf(60, 19);
        x.tool(20);
        x.tool(40);
        x.tool(1);
        x.days(3);
        Due.is("days 0", x.lease(0, 0, 0), Due.BAD);
        Due.is("days 31", x.lease(0, 0, 31), Due.BAD);
        Due.is("no person", x.lease(2, 0, 1), Due.BAD);
        Due.is("no person below", x.lease(-1, 0, 1), Due.BAD);
        Due.is("no tool", x.lease(0, 3, 1), Due.BAD);
        Due.is("no tool below", x.lease(0, -1, 1), Due.BAD);
        Due.is("purse of 19", x.lease(1, 0, 1), Due.STATE);
        Due.is("by purse", x.why(0), 2);
        x.claim(0, 0, 101);
        Due.is("due", x.lease(0, 0, 30), 33);
        Due.is("his own claim stays", x.toolOf(0, 6), 1);
        Due.is("purse", x.personOf(0, 1), 40);
        Due.is("deposit", x.toolOf(0, 5), 20);
        Due.is("purse that just does", x.lease(0, 1, 1), 4);
        Due.is("purse of 0", x.personOf(0, 1), 0);
        Due.is("not there, looked at ahead of the purse", x.lease(0, 0, 1), Due.STATE);
        Due.is("by not there", x.why(0), 1);
        Due.is("purse of 0", x.lease(0, 2, 1), Due.STATE);
        Due.is("by purse", x.why(0), 2);
        x.use(0, 9);
        x.returned(0);
        x.fund(0, 99);
        Due.is("wear 9", x.lease(0, 0, 1), Due.STATE);
        Due.is("by wear", x.why(0), 1);
    }

    private static void promise13Claim() {
        LeaseOffice x = Due.officeOf(9, 9, 9, 9, 9, 9, 9, 9, 9, 9);
        x.tool(5);
        x.tool(5);
        int[] wrong = {-1, 0, 31, 99, 100, 131, 900, 931, 1000, 1001, -99, Integer.MAX_VALUE, Integer.MIN_VALUE};
        for (int ud : wrong) {
            Due.is("claim ud " + ud, x.claim(0, 0, ud), Due.BAD);
        }
        Due.is("no person", x.claim(10, 0, 1), Due.BAD);
        Due.is("no person below", x.claim(-1, 0, 1), Due.BAD);
        Due.is("no tool", x.claim(0, 2, 1), Due.BAD);
        Due.is("no tool below", x.claim(0, -1, 1), Due.BAD);
        x.lease(9, 0, 1);
        Due.is("he is holder", x.claim(9, 0, 101), Due.STATE);
        Due.is("not of another one", x.claim(9, 1, 101), 0);
        Due.is("it isn't offered", x.toolOf(1, 2), Due.NOT);
        Due.is("lowest", x.claim(0, 0, 1), 0);
        Due.is("highest", x.claim(1, 0, 930), 0);
        Due.is("one there", x.claim(0, 0, 930), Due.STATE);
        for (int i = 2; i < 8; i++) {
            Due.is("claim " + i, x.claim(i, 0, 110), i - 1);
        }
        Due.is("a ninth", x.claim(8, 0, 101), Due.FULL);
        Due.is("a ninth, one there", x.claim(7, 0, 101), Due.STATE);
        Due.is("a ninth, he is holder", x.claim(9, 0, 101), Due.STATE);
        Due.is("a ninth, BAD", x.claim(8, 0, 100), Due.BAD);
        Due.is("another list", x.claim(8, 1, 101), 0);
        Due.is("no refusal by a why", x.why(0), Due.NOT);
    }

    private static void promise13ClaimOrder() {
        LeaseOffice x = Due.officeOf(0, 0, 0, 0, 0);
        x.tool(5);
        Due.is("3, of day 0", x.claim(3, 0, 401), 0);
        Due.is("1, of day 0: the lesser number", x.claim(1, 0, 402), 0);
        x.days(1);
        Due.is("0, of day 1: the later day", x.claim(0, 0, 403), 2);
        Due.is("2, less urgent", x.claim(2, 0, 304), 3);
        Due.is("4, more urgent", x.claim(4, 0, 505), 0);
        int[] persons = {4, 1, 3, 0, 2};
        int[] days = {5, 2, 1, 3, 4};
        for (int i = 0; i < persons.length; i++) {
            Due.is("person " + i, x.claimOf(0, i, 0), persons[i]);
            Due.is("days " + i, x.claimOf(0, i, 2), days[i]);
        }
    }

    private static void promise14Waive() {
        LeaseOffice x = Due.officeOf(0, 0, 0);
        x.tool(5);
        x.tool(6);
        x.claim(0, 0, 301);
        x.claim(1, 0, 202);
        x.claim(2, 0, 103);
        x.claim(1, 1, 101);
        Due.is("two are left", x.waive(1, 0), 2);
        Due.is("first", x.claimOf(0, 0, 0), 0);
        Due.is("second", x.claimOf(0, 1, 0), 2);
        Due.is("second's days", x.claimOf(0, 1, 2), 3);
        Due.is("not there", x.waive(1, 0), Due.NOT);
        Due.is("on the other list", x.waive(1, 1), 0);
        Due.is("none ever", x.waive(0, 1), Due.NOT);
        Due.is("no person", x.waive(3, 0), Due.BAD);
        Due.is("no person below", x.waive(-1, 0), Due.BAD);
        Due.is("no tool", x.waive(0, 2), Due.BAD);
        Due.is("no tool below", x.waive(0, -1), Due.BAD);
        Due.is("left", x.count(3), 2);
    }

    private static void promise15Returned() {
        LeaseOffice x = Due.officeOf(300);
        x.tool(29);
        x.tool(9);
        Due.is("no tool", x.returned(2), Due.BAD);
        Due.is("no tool below", x.returned(-1), Due.BAD);
        Due.is("at the office", x.returned(0), Due.STATE);
        x.lease(0, 0, 4);
        x.days(4);
        Due.is("on the day", x.returned(0), 0);
        Due.is("purse as before", x.personOf(0, 1), 300);
        Due.is("trust 1 more", x.personOf(0, 2), 51);
        Due.is("not late", x.personOf(0, 3), 0);
        Due.is("till", x.count(5), 0);
        x.lease(0, 0, 4);
        x.days(7);
        Due.is("three days late: 3 times 3", x.returned(0), 9);
        Due.is("the rest comes back", x.personOf(0, 1), 291);
        Due.is("trust 5 less", x.personOf(0, 2), 46);
        Due.is("late", x.personOf(0, 3), 1);
        Due.is("to the till", x.count(5), 9);
        x.lease(0, 1, 1);
        x.days(9);
        Due.is("worth 9: 1 a day", x.returned(1), 8);
        x.lease(0, 1, 1);
        x.days(99);
        Due.is("the deposit at most", x.returned(1), 9);
        Due.is("nothing comes back", x.personOf(0, 1), 274);
        for (int i = 0; i < 8; i++) {
            x.lease(0, 1, 1);
            x.days(2);
            x.returned(1);
        }
        Due.is("trust 0 at least", x.personOf(0, 2), 0);
        for (int i = 0; i < 101; i++) {
            x.lease(0, 1, 1);
            x.returned(1);
        }
        Due.is("trust 99 at most", x.personOf(0, 2), 99);
        Due.is("late so often", x.personOf(0, 3), 11);
    }

    private static void promise15ReturnedAndOffered() {
        LeaseOffice x = Due.officeOf(100, 9, 50, 50);
        x.tool(10);
        x.lease(0, 0, 20);
        x.days(2);
        x.claim(1, 0, 905);
        x.claim(2, 0, 806);
        x.claim(3, 0, 707);
        x.days(3);
        Due.is("next", x.told(0, 0), 2);
        x.returned(0);
        Due.is("the first that it can be leased to", x.toolOf(0, 2), 2);
        Due.is("since the day of that", x.toolOf(0, 3), 5);
        Due.is("due by the day of that", x.toolOf(0, 4), 11);
        Due.is("deposit from his purse", x.personOf(2, 1), 40);
        Due.is("his claim goes", x.toolOf(0, 6), 2);
        Due.is("the first stays", x.claimOf(0, 0, 0), 1);
        Due.is("the third stays", x.claimOf(0, 1, 0), 3);
        Due.is("the link ended", x.link(0, 0, 2), 5);
        Due.is("a new one", x.link(0, 1, 0), 2);
        Due.is("open", x.link(0, 1, 2), Due.NOT);
        x.use(0, 9);
        x.returned(0);
        Due.is("of wear 9 it stays", x.toolOf(0, 2), Due.NOT);
        Due.is("the claims stay", x.toolOf(0, 6), 2);
        LeaseOffice y = Due.officeOf(10);
        y.tool(10);
        y.claim(0, 0, 902);
        y.lease(0, 0, 1);
        Due.is("purse 0", y.personOf(0, 1), 0);
        y.returned(0);
        Due.is("to himself, by what came back", y.toolOf(0, 2), 0);
        Due.is("due", y.toolOf(0, 4), 2);
        Due.is("no claim left", y.toolOf(0, 6), 0);
        y.returned(0);
        Due.is("nobody is left", y.toolOf(0, 2), Due.NOT);
    }

    private static void promise15LookFirst() {
        LeaseOffice x = Due.officeOf(20, 50);
        x.tool(18);
        x.lease(0, 0, 5);
        x.use(0, 3);
        x.days(3);
        Due.is("fee", x.returned(0), 0);
        Due.is("looks", x.toolOf(0, 8), 2);
        Due.is("cost 6: purse 2, debt 4; the deposit doesn't pay it", x.personOf(0, 1), 18);
        Due.is("debt", x.personOf(0, 4), 4);
        Due.is("till", x.count(5), 2);
        Due.is("trust 3 less, 1 more", x.personOf(0, 2), 48);
        x.lease(1, 0, 5);
        x.use(0, 2);
        Due.is("who returned is blamed by the next look, too", x.told(0, 1), 3);
        Due.is("both", x.look(0), 2);
        Due.is("the first one's share", x.personOf(0, 1), 16);
        Due.is("the second one's share", x.personOf(1, 1), 30);
    }

    private static void promise16Pass() {
        LeaseOffice x = Due.officeOf(100, 30, 29, 100);
        x.tool(30);
        x.tool(10);
        Due.is("no tool", x.pass(2, 1), Due.BAD);
        Due.is("no tool below", x.pass(-1, 1), Due.BAD);
        Due.is("no person", x.pass(0, 4), Due.BAD);
        Due.is("no person below", x.pass(0, -1), Due.BAD);
        x.lease(2, 0, 5);
        x.lease(3, 0, 5);
        x.lease(0, 0, 5);
        Due.is("a refusal by 1", x.why(0), 1);
        Due.is("at the office", x.pass(1, 1), Due.STATE);
        Due.is("the refusal stays", x.why(0), 1);
        Due.is("its holder", x.pass(0, 3), Due.BAD);
        x.claim(1, 0, 101);
        Due.is("purse of 29", x.pass(0, 2), Due.STATE);
        Due.is("by 6", x.why(0), 6);
        Due.is("by 2", x.why(1), 2);
        x.days(5);
        Due.is("on the day", x.pass(0, 1), 1);
        Due.is("from his purse", x.personOf(1, 1), 0);
        Due.is("to the holder's", x.personOf(3, 1), 100);
        Due.is("holder", x.toolOf(0, 2), 1);
        Due.is("since", x.toolOf(0, 3), 5);
        Due.is("due stays", x.toolOf(0, 4), 5);
        Due.is("deposit stays", x.toolOf(0, 5), 30);
        Due.is("his claim stays", x.toolOf(0, 6), 1);
        Due.is("the link ended", x.link(0, 0, 2), 5);
        Due.is("a new one", x.link(0, 1, 1), 5);
        Due.is("no look", x.toolOf(0, 8), 1);
        x.days(1);
        Due.is("beyond due, looked at ahead of the purse", x.pass(0, 2), Due.STATE);
        Due.is("by 6", x.why(0), 6);
        Due.is("by 3", x.why(1), 3);
        Due.is("holder stays", x.toolOf(0, 2), 1);
    }

    private static void promise17Swap() {
        LeaseOffice x = Due.officeOf(100, 100);
        x.tool(10);
        x.tool(20);
        x.tool(30);
        x.tool(40);
        x.lease(0, 0, 5);
        x.lease(1, 1, 9);
        x.lease(0, 2, 5);
        Due.is("no tool", x.swap(0, 4), Due.BAD);
        Due.is("no tool below", x.swap(-1, 0), Due.BAD);
        Due.is("alike", x.swap(0, 0), Due.BAD);
        Due.is("second at the office", x.swap(0, 3), Due.BAD);
        Due.is("first at the office", x.swap(3, 0), Due.BAD);
        Due.is("one holder of both", x.swap(0, 2), Due.BAD);
        Due.is("no refusal yet", x.why(0), Due.NOT);
        Due.is("no wishes", x.swap(0, 1), Due.STATE);
        Due.is("by 4", x.why(0), 4);
        x.wish(0, 0, 2);
        x.wish(0, 1, 9);
        Due.is("one wish", x.swap(0, 1), Due.STATE);
        x.wish(1, 1, 3);
        x.wish(1, 0, 3);
        Due.is("as much is not more", x.swap(0, 1), Due.STATE);
        x.wish(1, 0, 4);
        x.days(3);
        Due.is("gain", x.swap(0, 1), 8);
        Due.is("holder of the first", x.toolOf(0, 2), 1);
        Due.is("holder of the second", x.toolOf(1, 2), 0);
        Due.is("since", x.toolOf(1, 3), 3);
        Due.is("due stays", x.toolOf(0, 4), 5);
        Due.is("due stays", x.toolOf(1, 4), 9);
        Due.is("purse 60 and 10 less 20", x.personOf(0, 1), 50);
        Due.is("purse 80 less 10 and 20", x.personOf(1, 1), 90);
        Due.is("links", x.toolOf(0, 7), 2);
        Due.is("links", x.toolOf(1, 7), 2);
        Due.is("ended", x.link(1, 0, 2), 3);
        Due.is("all coins", x.swaps(3), 200);
    }

    private static void promise17SwapByPasses() {
        LeaseOffice x = Due.officeOf(40, 80);
        x.tool(40);
        x.tool(60);
        x.lease(0, 0, 5);
        x.lease(1, 1, 3);
        x.wish(0, 1, 1);
        x.wish(1, 0, 1);
        Due.is("20 is less than 40", x.swap(0, 1), Due.STATE);
        Due.is("by 5", x.why(0), 5);
        Due.is("by 2", x.why(1), 2);
        Due.is("the first has to be PASSED to 0, of purse 0", x.swap(1, 0), Due.STATE);
        Due.is("by 5", x.why(0), 5);
        x.fund(1, 20);
        Due.is("the first goes, the second not: 40 is less than 60", x.swap(0, 1), Due.STATE);
        Due.is("by 5", x.why(0), 5);
        Due.is("by 2", x.why(1), 2);
        Due.is("nothing is done", x.toolOf(0, 2), 0);
        Due.is("no purse", x.personOf(1, 1), 40);
        x.fund(0, 20);
        Due.is("the other way it can't: 20 is less than 60", x.swap(1, 0), Due.STATE);
        x.days(4);
        Due.is("the second is beyond due", x.swap(0, 1), Due.STATE);
        Due.is("by 5", x.why(0), 5);
        Due.is("by 3", x.why(1), 3);
        Due.is("the first is beyond due", x.swap(1, 0), Due.STATE);
        Due.is("by 3", x.why(1), 3);
        LeaseOffice y = Due.officeOf(40, 100);
        y.tool(40);
        y.tool(60);
        y.lease(0, 0, 5);
        y.lease(1, 1, 3);
        y.wish(0, 1, 1);
        y.wish(1, 0, 1);
        y.fund(0, 20);
        Due.is("by what the first brings", y.swap(0, 1), 2);
        Due.is("purse", y.personOf(0, 1), 0);
        Due.is("purse", y.personOf(1, 1), 60);
    }

    private static void promise18Use() {
        LeaseOffice x = Due.officeOf(50);
        x.tool(10);
        Due.is("at the office", x.use(0, 1), Due.STATE);
        Due.is("at the office, BAD", x.use(0, 0), Due.BAD);
        x.lease(0, 0, 3);
        Due.is("n 0", x.use(0, 0), Due.BAD);
        Due.is("n 10", x.use(0, 10), Due.BAD);
        Due.is("no tool", x.use(1, 1), Due.BAD);
        Due.is("no tool below", x.use(-1, 1), Due.BAD);
        Due.is("4", x.use(0, 4), 4);
        Due.is("5 more", x.use(0, 4), 8);
        Due.is("9 at most", x.use(0, 9), 9);
        Due.is("9 stays", x.use(0, 1), 9);
        Due.is("no look by that", x.toolOf(0, 8), 1);
    }

    private static void promise19Look() {
        LeaseOffice x = Due.officeOf(100, 100, 3);
        x.tool(50);
        Due.is("no tool", x.look(1), Due.BAD);
        Due.is("no tool below", x.look(-1), Due.BAD);
        Due.is("nothing", x.look(0), 0);
        Due.is("but it is put to looks", x.toolOf(0, 8), 2);
        x.lease(0, 0, 9);
        x.pass(0, 1);
        x.use(0, 2);
        x.fund(2, 50);
        x.pass(0, 2);
        x.use(0, 2);
        Due.is("cost 22 over 3: 8, 7, 7", x.look(0), 3);
        Due.is("the first one what is left over", x.personOf(0, 1), 92);
        Due.is("the second", x.personOf(1, 1), 93);
        Due.is("the third, as much as it has", x.personOf(2, 1), 0);
        Due.is("debt of the third", x.personOf(2, 4), 4);
        Due.is("till", x.count(5), 18);
        Due.is("trust 4 less", x.personOf(1, 2), 46);
        x.use(0, 1);
        Due.is("the open one alone", x.look(0), 1);
        Due.is("its debt 5 more", x.personOf(2, 4), 9);
        Due.is("no more wear", x.look(0), 0);
    }

    private static void promise19LookByLinks() {
        LeaseOffice x = Due.officeOf(100, 100);
        x.tool(9);
        x.lease(0, 0, 9);
        x.pass(0, 1);
        x.pass(0, 0);
        x.use(0, 1);
        Due.is("each once", x.look(0), 2);
        Due.is("1 over 2, cut; what is left over is the first one's", x.personOf(0, 1), 90);
        Due.is("the second pays 0", x.personOf(1, 1), 100);
        Due.is("but has less trust", x.personOf(1, 2), 49);
        x.returned(0);
        x.look(0);
        x.lease(1, 0, 3);
        x.use(0, 1);
        Due.is("the link of who returned was closed at the look", x.told(0, 1), 2);
        Due.is("so the holder alone", x.look(0), 1);
        LeaseOffice y = Due.officeOf(100);
        y.tool(1);
        for (int i = 0; i < 6; i++) {
            y.lease(0, 0, 9);
            y.use(0, 1);
            y.returned(0);
        }
        y.tool(1);
        y.lease(0, 1, 9);
        for (int i = 0; i < 9; i++) {
            y.use(1, 1);
            y.look(1);
        }
        Due.is("trust 6 up, 6 and 9 less", y.personOf(0, 2), 41);
        for (int i = 2; i < 8; i++) {
            y.tool(1);
            y.lease(0, i, 9);
            y.use(i, 9);
            y.look(i);
        }
        Due.is("trust 0 at least", y.personOf(0, 2), 0);
        Due.is("coins", y.swaps(3), 100);
    }

    private static void promise19LinksKeptNoMore() {
        LeaseOffice x = Due.officeOf(99, 99, 99, 99, 99, 99, 99, 99, 99, 99);
        x.tool(90);
        x.lease(0, 0, 30);
        x.look(0);
        for (int i = 1; i <= 7; i++) {
            x.pass(0, i);
        }
        Due.is("the one that was open then is kept", x.told(0, 1), 255);
        x.pass(0, 8);
        Due.is("and then no more", x.told(0, 1), 510);
        x.pass(0, 9);
        Due.is("eight are blamed", x.told(0, 1), 1020);
        x.use(0, 8);
        Due.is("eight", x.look(0), 8);
        Due.is("who is not kept pays nothing", x.personOf(1, 1), 99);
        Due.is("10 each", x.personOf(2, 1), 89);
    }

    private static void promise20Days() {
        LeaseOffice x = new LeaseOffice();
        Due.is("n 0", x.days(0), Due.BAD);
        Due.is("n 100", x.days(100), Due.BAD);
        Due.is("n below", x.days(-1), Due.BAD);
        Due.is("1", x.days(1), 1);
        Due.is("99", x.days(99), 100);
        Due.is("day", x.count(4), 100);
    }

    private static void promise21Why() {
        LeaseOffice x = Due.officeOf(10, 10);
        x.tool(10);
        x.tool(20);
        Due.is("none", x.why(0), Due.NOT);
        Due.is("i below 0", x.why(-1), Due.BAD);
        x.lease(0, 0, 1);
        x.pass(0, 1);
        Due.is("no refusal by what is done", x.why(0), Due.NOT);
        x.lease(0, 1, 1);
        Due.is("2", x.why(0), 2);
        Due.is("no second", x.why(1), Due.NOT);
        x.days(5);
        x.pass(0, 0);
        Due.is("6", x.why(0), 6);
        Due.is("by 3", x.why(1), 3);
        Due.is("no third", x.why(2), Due.NOT);
        Due.is("far", x.why(Integer.MAX_VALUE), Due.NOT);
        x.lease(0, 9, 1);
        x.claim(1, 0, 101);
        x.use(1, 1);
        x.back();
        Due.is("other answers leave it", x.why(0), 6);
        Due.is("a line of a text, too", Due.script(x, "l 0 1 1"), -2000);
        Due.is("6 still", x.why(0), 6);
        x.image();
        x.lease(0, 0, 1);
        Due.is("1", x.why(0), 1);
        Due.is("of one why alone", x.why(1), Due.NOT);
        x.back();
        Due.is("an image keeps it", x.why(0), 6);
        Due.is("and what is behind", x.why(1), 3);
        x.lease(0, 0, 1);
        x.returned(0);
        Due.is("what is done leaves it", x.why(0), 1);
    }
}
