import java.util.Arrays;

/** Boundaries that the document names: promises 1 to 11, and the terms that they stand on. */
public final class EdgesOfPersonsAndToolsTest {
    private static final int MIN = Integer.MIN_VALUE, MAX = Integer.MAX_VALUE;
    private static final int[] NO_PERSON_OF_TWO = {-1, 2, 11, 12, MIN, MAX};
    private static final int[] NO_TOOL_OF_TWO = {-1, 2, 9, 10, MIN, MAX};
    private static final String TWO_AND_TWO = "person 1 100 | person 2 100 | tool 20 | tool 30";
    private static final String TEN_PERSONS = Edge.times(10, "person 11# 10");
    /** A lease that ends in time brings 1 more TRUST, one that ends late 5 less. */
    private static final String IN_TIME = "lease 0 0 1 | returned 0";
    private static final String LATE = "lease 0 0 1 | days 2 | returned 0";

    public static void main(String[] args) {
        promise1();
        promise1OwnMemory();
        promise1Answers();
        promise1NothingChanges();
        promise2Name();
        promise2Others();
        promise2SeveralAnswers();
        promise3();
        promise4();
        promise5();
        promise5Debt();
        promise6();
        promise6Trust();
        promise6Others();
        promise7();
        promise7Kept();
        promise8();
        promise9();
        promise10();
        promise11();
        promise11Rank();
        Edge.end(1, 11);
    }

    private static void promise1() {
        Edge.says(1, "No PERSONS, no TOOLS.").is("count 0", 0).is("count 1", 0)
                .is("person 5 5", 0).is("tool 5", 0)
                .refused("personOf 0 0", Due.BAD).refused("toolOf 0 0", Due.BAD).refused("ranked 0", Due.NOT)
                .refused("wish 0 0 0", Due.BAD).refused("fund 0 1", Due.BAD).refused("lease 0 0 1", Due.BAD)
                .refused("claim 0 0 1", Due.BAD).refused("waive 0 0", Due.BAD).refused("returned 0", Due.BAD)
                .refused("pass 0 0", Due.BAD).refused("swap 0 1", Due.BAD).refused("use 0 1", Due.BAD)
                .refused("look 0", Due.BAD).refused("told 0 0", Due.BAD).refused("share 0 0", Due.BAD);
        Edge.says(1, "DAY: 0 at first.").is("count 4", 0).is("image", 0).is("days 1", 1);
        Edge.says(1, "TILL: 0 at first.").is("count 5", 0).is("swaps 3", 0);
        Edge.says(1, "HOLDERS 0 .. 5 hold nothing (at first)").is("count 8", 0)
                .refusedFor("tells # 0", Due.EMPTY, 0, 1, 2, 3, 4, 5)
                .refusedFor("tells # 0", Due.BAD, -1, 6, MIN, MAX);
        Edge.says(1, "THE TAPE (120 bytes at most)").is("count 7", 0).is("feed 0", 1);
        Edge.says(1, "An object is used for at most 512 calls after it has been made")
                .is(Edge.times(511, "days 99") + " | days 99", 512 * 99)
                .is("tool 1 | " + Edge.times(510, "look 0") + " | toolOf 0 8", 6)
                .is("person 1 9999 | tool 99 | lease 0 0 1 | " + Edge.times(508, "days 99") + " | returned 0", 99)
                .is("tool 99 | person 1 1 | " + Edge.times(509, "fund 0 1") + " | personOf 0 1", 510)
                .is(Edge.times(120, "feed 255") + " | " + Edge.times(391, "!feed 255") + " | feed 255", Due.FULL)
                .is("person 1 99 | tool 9 | " + Edge.times(254, IN_TIME) + " | lease 0 0 1 | personOf 0 2", 99);
    }

    private static void promise1OwnMemory() {
        Edge.says(1, "All memory is the class's own.");
        LeaseOffice x = new LeaseOffice();
        LeaseOffice y = new LeaseOffice();
        String calls = "person 1 100 | person 2 100 | tool 20 | wish 0 0 5 | lease 0 0 5 | claim 1 0 101 | use 0 3 | image"
                + " | days 3 | row 0 2 | put 0 1 9 | hold 1 1 1 | type d 1 | !lease 0 0 1";
        new Calls(x).make("promise 1, one of two objects", calls);
        for (State page : State.ALL) {
            int[] got = page.readOff(new Calls(y));
            int[] want = page.readOff(new Calls());
            Due.is("promise 1: the other object is new", Arrays.equals(got, want) ? 1 : 0, 1);
            y = new LeaseOffice();
        }
        Due.is("promise 1: the one is as it was", x.personOf(0, 1), 80);
    }

    private static void promise1Answers() {
        String office = TWO_AND_TWO + " | row 0 2 | hold 1 1 0 | lease 0 0 5";
        Edge.says(1, "BAD (-1): no such number, or it is not as said").after(office)
                .refused("personOf 2 0", -1).refused("personOf 0 8", -1).refused("tool 0", -1).refused("hold 0 3 0", -1);
        Edge.says(1, "NOT (-2): as told").after(office).refused("ranked 2", -2).refused("link 0 1 0", -2)
                .refused("waive 0 0", -2).refused("toolOf 1 2", -2).refused("told 0 0", -2).refused("why 0", -2);
        Edge.says(1, "FULL (-3)").after(office + " | " + Edge.times(8, "tool 9")).refused("tool 9", -3)
                .is("image | back | person 3 5", 2);
        Edge.says(1, "STATE (-5): as told").after(office).refused("person 1 5", -5).refused("returned 1", -5)
                .refused("back", -5).refused("claim 0 0 101", -5).refused("use 1 1", -5);
        Edge.says(1, "-11 nothing is there where something is wanted").after(office).refused("tells 2 0", -11)
                .refused("judge 2 -1", -11).is("tells 1 0", 0).is("judge 0 -1", 1);
        Edge.says(1, "-12 it is of another sort").after(office).refused("tells 1 2", -12).refused("tells 0 0", -12)
                .refused("judge 1 -1", -12).is("tells 1 1", 50);
        Edge.says(1, "-14 a size below 0").after(office).refused("row 2 -1", -14).is("row 2 0", 1);
        Edge.says(1, "VOID is -2000000000.").after(office).refused("put 0 2 5", -2000000000)
                .refused("put 1 0 5", -2000000000).refused("put 2 0 5", -2000000000).is("put 0 1 5", 0);
    }

    private static void promise1NothingChanges() {
        Edge nothing = Edge.says(1, "What is answered so changes nothing (but THE REFUSAL).")
                .after(TWO_AND_TWO + " | wish 0 1 5 | lease 0 0 5 | claim 1 0 203 | use 0 4 | days 6 | look 0 | use 0 1"
                        + " | image | fund 0 3 | !lease 0 0 5 | row 0 3 | put 0 1 5 | hold 1 1 1 | hold 2 2 1 | type d 1");
        String[] bad = {"person 0 5", "person 3 -1", "tool 0", "wish 0 0 10", "fund 0 0", "personOf 0 8", "toolOf 0 9",
            "link 0 0 3", "seen 0 0 2", "claimOf 0 0 4", "ranked -1", "lease 0 1 0", "claim 0 1 0", "waive 2 0",
            "returned 2", "pass 0 0", "swap 0 0", "use 0 0", "look 2", "days 0", "why -1", "told 0 3", "share 0 2",
            "swaps 4", "ahead 61 0", "judge 0 2", "feed 256", "hold 0 1 2", "row 0 61", "tells 0 4", "count 9"};
        for (String call : bad) {
            nothing.refused(call, Due.BAD);
        }
        nothing.refused("person 1 5", Due.STATE).refused("claim 0 0 101", Due.STATE).refused("returned 1", Due.STATE)
                .refused("use 1 1", Due.STATE).refused("pass 1 0", Due.STATE).refused("waive 0 0", Due.NOT)
                .refused("link 0 1 0", Due.NOT).refused("judge 5 -1", Due.EMPTY).refused("judge 1 -1", Due.SORT)
                .refused("row 0 -1", Due.SIZE).refused("put 0 3 5", LeaseOffice.VOID)
                .refused("put 1 0 5", LeaseOffice.VOID).refused("tells 1 2", Due.SORT)
                .refusedBy("lease 1 0 5", 1).refusedBy("pass 0 1", 6, 3);
    }

    private static void promise2Name() {
        Edge.says(2, "name: 1 to 3 letters as digits of 27, a 1, z 26, the first the highest")
                .refused("person 0 5", Due.BAD).is("person 1 5", 0)
                .is("person 26 5", 0).refused("person 27 5", Due.BAD).is("person 28 5", 0)
                .is("person 53 5", 0).refused("person 54 5", Due.BAD).is("person 55 5", 0)
                .is("person 728 5", 0).refused("person 729 5", Due.BAD).refused("person 730 5", Due.BAD)
                .refused("person 755 5", Due.BAD).refused("person 756 5", Due.BAD).is("person 757 5", 0)
                .is("person 19682 5", 0).refused("person 19683 5", Due.BAD)
                .refusedFor("person # 5", Due.BAD, -1, -28, 20440, 531440, 531441, MIN, MAX)
                .is("text p z 5 | personOf 0 0", 26).is("text p aa 5 | personOf 0 0", 28)
                .is("text p ab 5 | personOf 0 0", 29).is("text p ba 5 | personOf 0 0", 55)
                .is("text p abc 5 | personOf 0 0", 786).is("text p zzz 5 | personOf 0 0", 19682);
        Edge.says(2, "a NAME is told by letters from 1 to 26, none of them 0")
                .is("person 701 5", 0).refused("person 702 5", Due.BAD).is("person 703 5", 0)
                .refused("person 1458 5", Due.BAD).refused("person 1459 5", Due.BAD)
                .refused("person 1484 5", Due.BAD).refused("person 1485 5", Due.BAD).is("person 1486 5", 0)
                .is("person 18953 5", 0).refused("person 18954 5", Due.BAD).refused("person 18980 5", Due.BAD)
                .refused("person 18981 5", Due.BAD).is("person 18982 5", 0)
                .is("person 19655 5", 0).refused("person 19656 5", Due.BAD).is("person 19657 5", 0);
        Edge.says(2, "no two alike").after("person 1 5 | person 28 5")
                .refused("person 1 5", Due.STATE).refused("person 1 6", Due.STATE).refused("person 28 0", Due.STATE)
                .is("person 2 5", 2).is("person 757 5", 2).is("person 29 5", 2)
                .refused("text p a 5", -2000).refused("text p aa 9", -2000).is("text p aaa 5", 1)
                .refused("text p b 5;p b 5", -2001);
        Edge.says(2, "STATE: one has that NAME").after(TWO_AND_TWO)
                .refused("person 1 0", Due.STATE).refused("person 2 9999", Due.STATE).is("person 3 0", 2)
                .is("image | person 3 0 | back | person 3 0", 2)
                .is("person 3 0 | image | back | person 3 0", Due.STATE);
    }

    private static void promise2Others() {
        Edge.says(2, "a NAME (1 .. 3 letters a .. z").is("text p a 5", 1).is("text p z 5", 1).is("text p zzz 5", 1)
                .refused("text p zzzz 5", -1005).refused("person 0 5", Due.BAD).refused("person 19683 5", Due.BAD);
        Edge.says(2, "BAD (name, purse)").after("person 1 5").is("person 2 5", 1).refused("person 0 5", Due.BAD)
                .refused("person 2 -1", Due.BAD).refused("person 0 -1", Due.BAD).refused("person 1 -1", Due.BAD);
        Edge.says(2, "PURSE (0 .. 9999").is("person 1 0 | personOf 0 1", 0)
                .is("person 1 9999 | personOf 0 1", 9999)
                .refusedFor("person 1 #", Due.BAD, -1, 10000, MIN, MAX)
                .is("text p a 0 | personOf 0 1", 0).is("text p a 999 | personOf 0 1", 999);
        Edge.says(2, "beyond that by what comes back to it").after("person 1 9999 | tool 99 | lease 0 0 5")
                .is("fund 0 99", 9999).refused("fund 0 100", Due.STATE)
                .is("fund 0 99 | returned 0 | personOf 0 1", 10098)
                .refused("fund 0 99 | returned 0 | fund 0 1", Due.STATE)
                .is("fund 0 99 | person 2 99 | pass 0 1 | personOf 0 1", 10098)
                .is("fund 0 99 | days 6 | returned 0 | personOf 0 1", 10088)
                .is("fund 0 99 | returned 0 | lease 0 0 5", 5);
        Edge.says(2, "PERSONS 0 .. 11, as they come").after(TEN_PERSONS)
                .is("personOf 9 1", 10).refused("personOf 10 1", Due.BAD)
                .is("person 1 7", 10).is("person 1 7 | personOf 10 1", 7)
                .is("person 1 7 | person 2 8", 11).is("person 1 7 | person 2 8 | personOf 11 1", 8)
                .refused("person 1 7 | person 2 8 | personOf 12 1", Due.BAD);
        Edge.says(2, "FULL: 12.").after(TEN_PERSONS + " | person 1 7")
                .is("count 0", 11).is("person 2 8", 11).is("person 2 8 | count 0", 12)
                .refused("person 2 8 | person 3 9", Due.FULL)
                .refused("person 2 8 | text p c 9", -2000)
                .is("person 2 8 | !person 3 9 | !person 4 9 | count 0", 12)
                .is("image | person 2 8 | back | person 3 9", 11);
    }

    private static void promise2SeveralAnswers() {
        Edge.says(2, "Answers, of several the one named first").after(TEN_PERSONS + " | person 1 7")
                .refused("person 1 -1", Due.BAD).refused("person 1 10000", Due.BAD)
                .refused("person 2 8 | person 0 9", Due.BAD).refused("person 2 8 | person 3 -1", Due.BAD)
                .refused("person 2 8 | person 2 9", Due.STATE).refused("person 2 8 | person 1 10000", Due.BAD);
    }

    private static void promise3() {
        Edge.says(3, "WORTH (1 .. 99)").is("tool 1 | toolOf 0 0", 1).is("tool 99 | toolOf 0 0", 99)
                .refusedFor("tool #", Due.BAD, 0, 100, -1, MIN, MAX)
                .refused("text t 0", -2000).is("text t 1", 1).is("text t 99", 1).refused("text t 100", -2000)
                .is("!tool 0 | !tool 100 | tool 5", 0);
        Edge.says(3, "TOOLS 0 .. 9, as they come").after(Edge.times(9, "tool 1#"))
                .is("toolOf 8 0", 18).refused("toolOf 9 0", Due.BAD)
                .is("tool 50 | toolOf 9 0", 50).refused("tool 50 | toolOf 10 0", Due.BAD);
        Edge.says(3, "FULL: 10.").after(Edge.times(9, "tool 1#"))
                .is("tool 50", 9).refused("tool 50 | tool 51", Due.FULL).refused("tool 50 | tool 0", Due.BAD)
                .refused("tool 50 | tool 100", Due.BAD).refused("tool 50 | text t 51", -2000)
                .is("tool 50 | !tool 51 | count 1", 10).is("image | tool 50 | back | tool 51", 9);
        Edge.says(3, "WEAR (0 .. 9; 0 at first)").after("person 1 50 | tool 20")
                .is("toolOf 0 1", 0).is("lease 0 0 5 | use 0 9 | toolOf 0 1", 9)
                .is("lease 0 0 5 | use 0 9 | use 0 9 | toolOf 0 1", 9);
        Edge.says(3, "the first as it comes").is("tool 5 | toolOf 0 8", 1).is("tool 5 | seen 0 0 0", 0)
                .is("days 7 | tool 5 | seen 0 0 0", 7).is("days 7 | tool 5 | seen 0 0 1", 0)
                .refused("days 7 | tool 5 | seen 0 1 0", Due.NOT);
        Edge.says(3, "each AT THE OFFICE (at first)").after("person 1 20 | tool 20")
                .is("toolOf 0 2", Due.NOT).refused("returned 0", Due.STATE).is("lease 0 0 1", 1);
    }

    private static void promise4() {
        Edge.says(4, "WISH of each TOOL (0 .. 9; 0 at first)").after(TWO_AND_TWO)
                .is("wish 1 1 0", 0).is("wish 1 1 9", 0).is("wish 1 1 9 | wish 1 1 0", 9)
                .is("wish 1 1 9 | wish 1 1 0 | wish 1 1 0", 0)
                .refusedFor("wish 1 1 7 | wish 1 1 #", Due.BAD, -1, 10, MIN, MAX)
                .is("wish 1 1 7 | !wish 1 1 10 | wish 1 1 3", 7)
                .is("text w 1 1 9", 1).refused("text w 1 1 10", -2000)
                .is("person 3 3 | wish 2 1 4", 0).is("tool 4 | wish 1 2 4", 0);
        Edge.says(4, "WISH becomes v: what it was. BAD.").after(TWO_AND_TWO)
                .refusedFor("wish # 1 5", Due.BAD, NO_PERSON_OF_TWO)
                .refusedFor("wish 1 # 5", Due.BAD, NO_TOOL_OF_TWO)
                .is("wish 0 0 5", 0).is("wish 1 1 5 | wish 1 1 6", 5)
                .is("wish 0 1 5 | wish 1 0 4 | wish 1 1 3", 0).is("wish 0 1 5 | wish 1 0 4 | wish 0 0 3", 0);
        Edge.says(4, "PERSONS 0 .. 11, as they come").after(TEN_PERSONS + " | person 1 1 | person 2 2 | "
                + Edge.times(10, "tool 5"))
                .is("wish 11 9 9", 0).is("wish 11 9 9 | wish 11 9 8", 9)
                .refused("wish 12 9 9", Due.BAD).refused("wish 11 10 9", Due.BAD);
    }

    private static void promise5() {
        Edge.says(5, "n coins (1 .. 999) for a PERSON").after("person 1 0 | person 2 5")
                .is("fund 0 1", 1).is("fund 0 999", 999).is("fund 1 999", 1004)
                .refusedFor("fund 1 #", Due.BAD, 0, -1, 1000, MIN, MAX)
                .refusedFor("fund # 5", Due.BAD, NO_PERSON_OF_TWO);
        Edge.says(5, "STATE: PURSE would be above 9999 then.").after("person 1 9998 | person 2 9000")
                .is("fund 0 1", 9999).refused("fund 0 2", Due.STATE).refused("fund 0 999", Due.STATE)
                .refused("fund 0 1 | fund 0 1", Due.STATE).refused("fund 0 1000", Due.BAD)
                .is("fund 1 999", 9999).is("fund 1 1 | fund 1 998", 9999).refused("fund 1 1 | fund 1 999", Due.STATE)
                .is("tool 1 | lease 0 0 1 | fund 0 2", 9999).refused("tool 1 | lease 0 0 1 | fund 0 3", Due.STATE);
        Edge.says(5, "the rest comes to the PURSE: what that has").after("person 1 7")
                .is("fund 0 1", 8).is("fund 0 1 | personOf 0 1", 8).is("fund 0 1 | count 5", 0)
                .is("fund 0 1 | swaps 3", 8);
    }

    private static void promise5Debt() {
        // A COST of 20, of which the purse has nothing.
        Edge debtor = Edge.says(5, "DEBT is paid first, to THE TILL")
                .after("person 1 20 | tool 20 | lease 0 0 5 | use 0 9 | look 0");
        debtor.is("personOf 0 4", 20).is("fund 0 19", 0).is("fund 0 19 | personOf 0 4", 1)
                .is("fund 0 19 | count 5", 19)
                .is("fund 0 20", 0).is("fund 0 20 | personOf 0 4", 0).is("fund 0 20 | count 5", 20)
                .is("fund 0 21", 1).is("fund 0 21 | personOf 0 4", 0).is("fund 0 21 | count 5", 20)
                .is("fund 0 999", 979).is("fund 0 1 | fund 0 1 | personOf 0 4", 18)
                .refused("fund 0 0", Due.BAD).refused("fund 0 1000", Due.BAD);
        // The PURSE can't come near 9999 while there is DEBT: ten deposits of 99 are the most that comes back.
        Edge.says(5, "STATE of fund() is by the PURSE behind DEBT")
                .after("person 1 990 | " + Edge.times(10, "tool 99") + " | " + Edge.times(10, "lease 0 # 5")
                        + " | use 0 9 | look 0 | " + Edge.times(10, "returned #"))
                .is("personOf 0 4", 99).is("personOf 0 1", 990).is("fund 0 99", 990).is("fund 0 999", 1890)
                .is(Edge.times(9, "fund 0 999") + " | fund 0 117", 9999)
                .refused(Edge.times(9, "fund 0 999") + " | fund 0 118", Due.STATE);
    }

    private static void promise6() {
        Edge person = Edge.says(6, "NAME (what 0), PURSE (1), TRUST (2), LATE (3), DEBT (4), how many TOOLS (5), "
                + "place in RANK (6, from 0), CLAIMS (7). BAD.").after(TWO_AND_TWO);
        int[] atFirst = {2, 100, 50, 0, 0, 0, 1, 0};
        for (int what = 0; what < atFirst.length; what++) {
            person.is("personOf 1 " + what, atFirst[what]);
        }
        person.refusedFor("personOf 1 #", Due.BAD, -1, 8, MIN, MAX)
                .refusedFor("personOf # 0", Due.BAD, NO_PERSON_OF_TWO)
                .refused("personOf 2 8", Due.BAD);
        Edge.says(6, "how many TOOLS (5)").after("person 1 990 | person 2 99 | " + Edge.times(10, "tool 99"))
                .is("personOf 0 5", 0).is("lease 0 9 1 | personOf 0 5", 1)
                .is(Edge.times(10, "lease 0 # 5") + " | personOf 0 5", 10)
                .is(Edge.times(10, "lease 0 # 5") + " | pass 9 1 | personOf 0 5", 9)
                .is(Edge.times(10, "lease 0 # 5") + " | pass 9 1 | personOf 1 5", 1)
                .is(Edge.times(10, "lease 0 # 5") + " | " + Edge.times(10, "returned #") + " | personOf 0 5", 0);
        Edge.says(6, "CLAIMS (7)").after("person 1 990 | person 2 99 | " + Edge.times(10, "tool 99"))
                .is("personOf 0 7", 0).is("claim 0 9 1 | personOf 0 7", 1)
                .is(Edge.times(10, "claim 0 # 5") + " | personOf 0 7", 10)
                .is(Edge.times(10, "claim 0 # 5") + " | waive 0 0 | personOf 0 7", 9)
                .is(Edge.times(10, "claim 0 # 5") + " | personOf 1 7", 0)
                .is("lease 1 3 1 | claim 0 3 5 | returned 3 | personOf 0 7", 0);
        Edge.says(6, "place in RANK (6, from 0)").after(TEN_PERSONS + " | person 2 5 | person 1 5")
                .is("personOf 11 6", 0).is("personOf 10 6", 1).is("personOf 9 6", 11).is("personOf 0 6", 2);
    }

    private static void promise6Trust() {
        Edge.says(6, "TRUST (0 .. 99; 50 at first)").after("person 1 99 | tool 1")
                .is("personOf 0 2", 50)
                .is(Edge.times(48, IN_TIME) + " | personOf 0 2", 98)
                .is(Edge.times(49, IN_TIME) + " | personOf 0 2", 99)
                .is(Edge.times(50, IN_TIME) + " | personOf 0 2", 99)
                .is(Edge.times(51, IN_TIME) + " | " + LATE + " | personOf 0 2", 94)
                .is(Edge.times(9, LATE) + " | personOf 0 2", 5)
                .is(Edge.times(10, LATE) + " | personOf 0 2", 0)
                .is(Edge.times(11, LATE) + " | personOf 0 2", 0)
                .is(Edge.times(11, LATE) + " | " + IN_TIME + " | personOf 0 2", 1);
        Edge.says(6, "LATE is 1 more, TRUST 5 less (0 at least)").after("person 1 99 | tool 1 | " + IN_TIME)
                .is(Edge.times(10, LATE) + " | personOf 0 2", 1).is(Edge.times(11, LATE) + " | personOf 0 2", 0)
                .is(Edge.times(11, LATE) + " | personOf 0 3", 11);
    }

    private static void promise6Others() {
        Edge.says(6, "LATE (how often; 0 at first)").after("person 1 200 | tool 1")
                .is("personOf 0 3", 0).is(IN_TIME + " | personOf 0 3", 0)
                .is("lease 0 0 1 | days 1 | returned 0 | personOf 0 3", 0).is(LATE + " | personOf 0 3", 1)
                .is(Edge.times(99, LATE) + " | personOf 0 3", 99).is(Edge.times(100, LATE) + " | personOf 0 3", 100);
        Edge.says(6, "DEBT (0 at first)").after("person 1 99 | tool 50 | lease 0 0 5 | use 0 9")
                .is("personOf 0 4", 0).is("look 0 | personOf 0 4", 1).is("look 0 | fund 0 1 | personOf 0 4", 0)
                .is("fund 0 1 | look 0 | personOf 0 4", 0).is("fund 0 1 | look 0 | personOf 0 1", 0);
    }

    private static void promise7() {
        Edge tool = Edge.says(7, "WORTH (what 0), WEAR (1), HOLDER (2; NOT), since (3; NOT), DUE (4; NOT), "
                + "DEPOSIT (5; 0), CLAIMS (6), LINKS kept (7), LOOKS kept (8). BAD.").after(TWO_AND_TWO);
        int[] atFirst = {30, 0, Due.NOT, Due.NOT, Due.NOT, 0, 0, 0, 1};
        int[] leased = {30, 0, 0, 4, 9, 30, 0, 1, 1};
        int[] back = {30, 0, Due.NOT, Due.NOT, Due.NOT, 0, 0, 1, 2};
        for (int what = 0; what < atFirst.length; what++) {
            tool.is("toolOf 1 " + what, atFirst[what]).is("days 4 | lease 0 1 5 | toolOf 1 " + what, leased[what])
                    .is("days 4 | lease 0 1 5 | returned 1 | toolOf 1 " + what, back[what]);
        }
        tool.refusedFor("toolOf 1 #", Due.BAD, -1, 9, MIN, MAX)
                .refusedFor("toolOf # 0", Due.BAD, NO_TOOL_OF_TWO);
        Edge.says(7, "DUE on a DAY").after(TWO_AND_TWO)
                .is("lease 0 0 1 | toolOf 0 4", 1).is("days 99 | lease 0 0 30 | toolOf 0 4", 129)
                .is("lease 0 0 1 | toolOf 0 3", 0);
    }

    private static void promise7Kept() {
        Edge links = Edge.says(7, "LINKS (a PERSON, the DAY since which, the DAY till which; open: not yet), "
                + "as they came; the latest 8.").after("person 1 99 | person 2 99 | tool 5");
        String lease = "lease 0 0 9 | days 1 | returned 0";
        links.is("toolOf 0 7", 0).is(Edge.times(7, lease) + " | toolOf 0 7", 7)
                .is(Edge.times(8, lease) + " | toolOf 0 7", 8).is(Edge.times(8, lease) + " | link 0 0 1", 0)
                .is(Edge.times(9, lease) + " | toolOf 0 7", 8).is(Edge.times(9, lease) + " | link 0 0 1", 1)
                .is(Edge.times(9, lease) + " | link 0 7 1", 8).is(Edge.times(30, lease) + " | link 0 0 1", 22)
                .is(Edge.times(8, lease) + " | lease 1 0 1 | link 0 7 2", Due.NOT)
                .is(Edge.times(8, lease) + " | lease 1 0 1 | link 0 6 2", 8)
                .is(Edge.times(8, lease) + " | lease 1 0 1 | toolOf 0 7", 8);
        Edge looks = Edge.says(7, "LOOKS of a TOOL: (DAY, WEAR, how many LINKS there ever were then); the latest 6")
                .after("tool 5");
        looks.is("toolOf 0 8", 1).is(Edge.times(4, "look 0") + " | toolOf 0 8", 5)
                .is(Edge.times(5, "look 0") + " | toolOf 0 8", 6).is(Edge.times(6, "look 0") + " | toolOf 0 8", 6)
                .is(Edge.times(5, "days 1 | look 0") + " | seen 0 0 0", 0)
                .is(Edge.times(6, "days 1 | look 0") + " | seen 0 0 0", 1)
                .is(Edge.times(6, "days 1 | look 0") + " | seen 0 5 0", 6);
        Edge.says(7, "on a TOOL's LIST (one of a PERSON at most; 8 in all at most)")
                .after(TEN_PERSONS + " | tool 5 | tool 6")
                .is("toolOf 0 6", 0).is(Edge.times(8, "claim # 0 101") + " | toolOf 0 6", 8)
                .is(Edge.times(8, "claim # 0 101") + " | !claim 8 0 101 | toolOf 0 6", 8)
                .is(Edge.times(8, "claim # 0 101") + " | claim 8 1 101 | toolOf 1 6", 1);
    }

    private static void promise8() {
        Edge.says(8, "BAD; NOT: there are not as many.").after(TWO_AND_TWO + " | lease 0 0 5 | pass 0 1")
                .is("link 0 1 0", 1).refusedFor("link 0 # 0", Due.NOT, 2, 8, MAX)
                .refusedFor("link 0 # 0", Due.BAD, -1, MIN).refused("link 1 0 0", Due.NOT)
                .refusedFor("link 0 1 #", Due.BAD, -1, 3, MIN, MAX).refused("link 0 2 3", Due.BAD)
                .refusedFor("link # 0 0", Due.BAD, NO_TOOL_OF_TWO);
        Edge.says(8, "PERSON (what 0), since (1), till (2; NOT: open)").after(TWO_AND_TWO + " | days 3 | lease 1 0 5")
                .is("link 0 0 0", 1).is("link 0 0 1", 3).is("link 0 0 2", Due.NOT)
                .is("returned 0 | link 0 0 2", 3).is("days 1 | returned 0 | link 0 0 2", 4)
                .is("pass 0 0 | link 0 0 2", 3).is("pass 0 0 | link 0 1 2", Due.NOT).is("pass 0 0 | link 0 1 1", 3)
                .is("look 0 | link 0 0 2", Due.NOT).is("days 99 | link 0 0 2", Due.NOT);
        Edge.says(8, "the latest 8").after("person 1 99 | tool 5 | " + Edge.times(7, "lease 0 0 9 | days 1 | returned 0"))
                .is("link 0 6 1", 6).refused("link 0 7 1", Due.NOT).is("lease 0 0 9 | link 0 7 1", 7)
                .is("lease 0 0 9 | returned 0 | lease 0 0 9 | link 0 7 1", 7)
                .is("lease 0 0 9 | returned 0 | lease 0 0 9 | link 0 0 1", 1)
                .refused("lease 0 0 9 | returned 0 | lease 0 0 9 | link 0 8 1", Due.NOT);
    }

    private static void promise9() {
        Edge.says(9, "DAY (what 0), WEAR (1). BAD; NOT.").after(TWO_AND_TWO + " | lease 0 0 5 | use 0 4 | days 2 | look 0")
                .is("seen 0 1 0", 2).is("seen 0 1 1", 4).is("seen 0 0 0", 0).is("seen 0 0 1", 0)
                .refusedFor("seen 0 # 0", Due.NOT, 2, 6, MAX).refusedFor("seen 0 # 0", Due.BAD, -1, MIN)
                .refusedFor("seen 0 1 #", Due.BAD, -1, 2, 3, MIN, MAX).refused("seen 0 2 2", Due.BAD)
                .refusedFor("seen # 0 0", Due.BAD, NO_TOOL_OF_TWO)
                .is("use 0 1 | seen 0 1 1", 4);
        Edge.says(9, "the latest 6; the first as it comes").after("tool 5 | " + Edge.times(4, "days 1 | look 0"))
                .is("seen 0 4 0", 4).refused("seen 0 5 0", Due.NOT).is("days 1 | look 0 | seen 0 5 0", 5)
                .is("days 1 | look 0 | days 1 | look 0 | seen 0 5 0", 6)
                .is("days 1 | look 0 | days 1 | look 0 | seen 0 0 0", 1)
                .refused("days 1 | look 0 | days 1 | look 0 | seen 0 6 0", Due.NOT);
    }

    private static void promise10() {
        Edge.says(10, "PERSON (what 0), URGENCY (1), DAYS (2), the DAY of it (3). BAD; NOT.")
                .after(TWO_AND_TWO + " | days 6 | claim 1 0 930 | days 1 | claim 0 0 1")
                .is("claimOf 0 0 0", 1).is("claimOf 0 0 1", 9).is("claimOf 0 0 2", 30).is("claimOf 0 0 3", 6)
                .is("claimOf 0 1 0", 0).is("claimOf 0 1 1", 0).is("claimOf 0 1 2", 1).is("claimOf 0 1 3", 7)
                .refusedFor("claimOf 0 # 0", Due.NOT, 2, 8, MAX).refusedFor("claimOf 0 # 0", Due.BAD, -1, MIN)
                .refused("claimOf 1 0 0", Due.NOT).refusedFor("claimOf 0 1 #", Due.BAD, -1, 4, MIN, MAX)
                .refused("claimOf 0 2 4", Due.BAD).refusedFor("claimOf # 0 0", Due.BAD, NO_TOOL_OF_TWO);
        Edge.says(10, "8 in all at most").after(TEN_PERSONS + " | tool 5 | " + Edge.times(7, "claim # 0 101"))
                .is("claimOf 0 6 0", 6).refused("claimOf 0 7 0", Due.NOT)
                .is("claim 8 0 101 | claimOf 0 7 0", 8).refused("claim 8 0 101 | claimOf 0 8 0", Due.NOT)
                .is("claim 8 0 901 | claimOf 0 7 0", 6).is("claim 8 0 901 | claimOf 0 0 0", 8)
                .is("claim 8 0 901 | waive 0 0 | claimOf 0 6 0", 6)
                .refused("claim 8 0 901 | waive 0 0 | claimOf 0 7 0", Due.NOT);
    }

    private static void promise11() {
        Edge.says(11, "The k-th PERSON by RANK. BAD (k below 0); NOT.").after("person 2 5 | person 1 5")
                .is("ranked 0", 1).is("ranked 1", 0).refusedFor("ranked #", Due.NOT, 2, 12, MAX)
                .refusedFor("ranked #", Due.BAD, -1, -2, MIN)
                .is(TEN_PERSONS + " | ranked 11", 11).refused(TEN_PERSONS + " | ranked 12", Due.NOT);
    }

    private static void promise11Rank() {
        Edge.says(11, "of two PERSONS that with more TRUST goes ahead").after("person 1 50 | person 2 50 | tool 9")
                .is("ranked 0", 0).is("lease 1 0 1 | returned 0 | ranked 0", 1)
                .is("lease 1 0 1 | returned 0 | lease 0 0 1 | returned 0 | ranked 0", 0)
                .is("lease 0 0 1 | use 0 1 | look 0 | ranked 0", 1)
                .is("lease 1 0 1 | use 0 1 | look 0 | ranked 0", 0);
        Edge.says(11, "of the same that with less LATE").after("person 1 50 | person 2 50 | tool 9 | " + LATE
                + " | " + Edge.times(4, IN_TIME))
                .is("personOf 0 2", 49).is("ranked 0", 1).is(IN_TIME + " | personOf 0 2", 50)
                .is(IN_TIME + " | ranked 0", 1).is(IN_TIME + " | personOf 0 6", 1)
                .is(IN_TIME + " | " + IN_TIME + " | ranked 0", 0)
                .is(IN_TIME + " | " + LATE.replace("lease 0", "lease 1") + " | "
                        + Edge.times(5, IN_TIME.replace("lease 0", "lease 1")) + " | ranked 0", 0);
        Edge.says(11, "of the same that whose NAME goes ahead by its letters (a beginning of another one ahead of that)")
                .is("text p b 5;p a 5 | ranked 0", 1).is("text p a 5;p b 5 | ranked 0", 0)
                .is("text p aa 5;p a 5 | ranked 0", 1).is("text p aaa 5;p aa 5 | ranked 0", 1)
                .is("text p aaa 5;p a 5 | ranked 0", 1).is("text p b 5;p az 5 | ranked 0", 1)
                .is("text p b 5;p azz 5 | ranked 0", 1).is("text p ba 5;p azz 5 | ranked 0", 1)
                .is("text p z 5;p zz 5 | ranked 0", 0).is("text p zzz 5;p zz 5 | ranked 0", 1)
                .is("text p ab 5;p aaz 5 | ranked 0", 1).is("text p ab 5;p aba 5 | ranked 0", 0)
                .is("text p zzz 5;p z 5;p zz 5;p yzz 5;p a 5 | ranked 4", 0)
                .is("text p zzz 5;p z 5;p zz 5;p yzz 5;p a 5 | ranked 1", 3);
    }
}
