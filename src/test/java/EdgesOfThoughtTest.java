/** Boundaries that the document names: promises 22 to 26, and the terms that they stand on. */
public final class EdgesOfThoughtTest {
    private static final int MIN = Integer.MIN_VALUE, MAX = Integer.MAX_VALUE;
    private static final int[] NO_PERSON_OF_TWO = {-1, 2, 11, 12, MIN, MAX};
    private static final int[] NO_TOOL_OF_TWO = {-1, 2, 9, 10, MIN, MAX};
    private static final String TWO_AND_TWO = "person 1 100 | person 2 100 | tool 20 | tool 30";
    private static final String THREE_HOLDERS = "person 1 20 | person 2 20 | person 3 20 | tool 10 | tool 10 | tool 10"
            + " | lease 0 0 5 | lease 1 1 5 | lease 2 2 5";

    public static void main(String[] args) {
        promise22();
        promise22Next();
        promise22Suspects();
        promise22Owed();
        promise23();
        promise24();
        promise24Swaps();
        promise24Best();
        promise24Rings();
        promise24All();
        promise25();
        promise25Fees();
        promise26();
        promise26Ranked();
        promise26List();
        Edge.end(22, 26);
    }

    private static void promise22() {
        Edge.says(22, "NEXT (what 0; NOT), SUSPECTS (1), OWED (2; 0 AT THE OFFICE). BAD.").after(TWO_AND_TWO)
                .is("told 1 0", Due.NOT).is("told 1 1", 0).is("told 1 2", 0)
                .refusedFor("told 1 #", Due.BAD, -1, 3, MIN, MAX)
                .refusedFor("told # 0", Due.BAD, NO_TOOL_OF_TWO).refused("told 2 3", Due.BAD);
        Edge thought = Edge.says(22, "In thought (nothing changes)")
                .after(TWO_AND_TWO + " | lease 0 0 5 | lease 1 1 5 | wish 0 1 1 | wish 1 0 1 | claim 1 0 101 | use 0 3"
                        + " | days 6 | row 0 2");
        String[] questions = {"told 0 0", "told 0 1", "told 0 2", "share 0 0", "swaps 0", "swaps 2", "swaps 3",
            "ahead 60 0", "ahead 60 1", "judge 0 -1", "judge 0 0"};
        for (String question : questions) {
            thought.sameBehind("", question);
        }
    }

    private static void promise22Next() {
        Edge.says(22, "NEXT of a TOOL: to whom it would be LEASED, were it AT THE OFFICE and OFFERED now (its HOLDER's "
                + "PURSE as it is; WEAR as it is); NOT.").after("person 1 20 | person 2 19 | person 3 20 | tool 20")
                .is("told 0 0", Due.NOT).is("claim 1 0 901 | told 0 0", Due.NOT)
                .is("claim 1 0 901 | fund 1 1 | told 0 0", 1)
                .is("claim 1 0 901 | claim 2 0 1 | told 0 0", 2).is("claim 0 0 101 | claim 2 0 201 | told 0 0", 2)
                .is("claim 0 0 101 | lease 0 0 5 | told 0 0", Due.NOT)
                .is("claim 0 0 101 | lease 0 0 5 | fund 0 19 | told 0 0", Due.NOT)
                .is("claim 0 0 101 | lease 0 0 5 | fund 0 20 | told 0 0", 0)
                .is("claim 0 0 101 | lease 0 0 5 | returned 0 | toolOf 0 2", 0)
                .is("claim 2 0 101 | lease 0 0 5 | told 0 0", 2)
                .is("claim 2 0 101 | lease 0 0 5 | use 0 8 | told 0 0", 2)
                .is("claim 2 0 101 | lease 0 0 5 | use 0 9 | told 0 0", Due.NOT)
                .is("lease 0 0 5 | use 0 9 | returned 0 | claim 2 0 101 | told 0 0", Due.NOT)
                .is("claim 2 0 101 | waive 2 0 | told 0 0", Due.NOT);
    }

    private static void promise22Suspects() {
        Edge.says(22, "SUSPECTS of a TOOL: who would be BLAMED by a LOOK now, were there more WEAR than at the LOOK "
                + "ahead, whether there is or not (bits; 0: none)").after(TWO_AND_TWO)
                .is("told 0 1", 0).is("lease 0 0 5 | told 0 1", 1).is("lease 1 0 5 | told 0 1", 2)
                .is("lease 1 0 5 | pass 0 0 | told 0 1", 3).is("lease 0 0 5 | use 0 1 | told 0 1", 1)
                .is("lease 0 0 5 | look 0 | told 0 1", 1).is("lease 0 0 5 | returned 0 | told 0 1", 1)
                .is("lease 0 0 5 | returned 0 | look 0 | told 0 1", 0)
                .is(Edge.times(9, "person 11# 99") + " | person 3 99 | lease 11 0 5 | told 0 1", 2048)
                .is(Edge.times(9, "person 11# 99") + " | person 3 99 | lease 11 0 5 | pass 0 0 | told 0 1", 2049)
                .is("lease 0 0 5 | told 1 1", 0);
    }

    private static void promise22Owed() {
        Edge.says(22, "OWED of a TOOL: the FEE, were it RETURNED now.").after(TWO_AND_TWO + " | lease 0 0 5")
                .is("told 0 2", 0).is("days 5 | told 0 2", 0).is("days 6 | told 0 2", 3).is("days 11 | told 0 2", 18)
                .is("days 12 | told 0 2", 20).is("days 99 | told 0 2", 20).is("days 6 | returned 0 | told 0 2", 0)
                .is("days 6 | told 1 2", 0);
    }

    private static void promise23() {
        Edge.says(23, "SHARE. BAD.").after(TWO_AND_TWO + " | lease 1 0 5 | use 0 9")
                .is("share 0 1", 20).is("share 1 1", 0).refusedFor("share # 1", Due.BAD, NO_TOOL_OF_TWO)
                .refusedFor("share 0 #", Due.BAD, NO_PERSON_OF_TWO);
        Edge.says(23, "SHARE of a PERSON: what he would pay (or owe) of COST by a LOOK now (0, if WEAR isn't more than "
                + "at the LOOK ahead).").after("person 1 20 | person 2 100 | tool 20 | lease 0 0 5")
                .is("share 0 0", 0).is("share 0 1", 0).is("use 0 1 | share 0 0", 2).is("use 0 1 | share 0 1", 0)
                .is("use 0 9 | share 0 0", 20).is("use 0 9 | look 0 | share 0 0", 0)
                .is("use 0 8 | look 0 | use 0 1 | share 0 0", 2)
                .is("pass 0 1 | use 0 1 | share 0 0", 1).is("pass 0 1 | use 0 1 | share 0 1", 1)
                .is("pass 0 1 | use 0 2 | share 0 0", 2).is("pass 0 1 | use 0 2 | share 0 1", 2)
                .is("pass 0 1 | use 0 5 | share 0 0", 6).is("pass 0 1 | use 0 5 | share 0 1", 5)
                .is("use 0 9 | personOf 0 4", 0).is("use 0 9 | share 0 0 | look 0 | personOf 0 4", 20)
                .is("use 0 9 | returned 0 | share 0 0", 0);
    }

    private static void promise24() {
        Edge.says(24, "SWAPS (what 0), BEST (1; NOT), RINGS (2), ALL (3). BAD.")
                .is("swaps 0", 0).is("swaps 1", Due.NOT).is("swaps 2", 0).is("swaps 3", 0)
                .refusedFor("swaps #", Due.BAD, -1, 4, MIN, MAX);
    }

    private static void promise24Swaps() {
        Edge.says(24, "SWAPS: how many twos (the lesser first) could be SWAPPED now").after(THREE_HOLDERS)
                .is("swaps 0", 0).is("wish 0 1 1 | swaps 0", 0).is("wish 0 1 1 | wish 1 0 1 | swaps 0", 1)
                .is("wish 0 0 1 | wish 0 1 1 | wish 1 0 1 | swaps 0", 0)
                .is("wish 0 1 1 | wish 1 0 1 | wish 0 2 1 | wish 2 0 1 | wish 1 2 1 | wish 2 1 1 | swaps 0", 3)
                .is("wish 0 1 1 | wish 1 0 1 | days 5 | swaps 0", 1).is("wish 0 1 1 | wish 1 0 1 | days 6 | swaps 0", 0)
                .is("wish 0 1 1 | wish 1 0 1 | returned 1 | swaps 0", 0)
                .is("wish 0 1 1 | wish 1 0 1 | pass 0 1 | swaps 0", 0);
        // Person 0 has nothing: the lesser TOOL ahead can be SWAPPED, the other one ahead not.
        Edge.says(24, "could be SWAPPED now").after("person 1 40 | person 2 80 | tool 40 | tool 40 | lease 0 0 5 | "
                + "lease 1 1 5 | wish 0 1 1 | wish 1 0 1")
                .is("swaps 0", 1).refusedBy("swap 1 0", 5, 2).is("swap 0 1", 2)
                .is("tool 1 | lease 1 2 5 | swaps 0", 0).is("tool 1 | lease 1 2 5 | fund 1 1 | swaps 0", 1);
    }

    private static void promise24Best() {
        // The other way about: the greater TOOL ahead can be SWAPPED, the lesser one ahead not.
        Edge.says(24, "SWAPS: how many twos (the lesser first) could be SWAPPED now; BEST: that of most GAIN")
                .after("person 1 80 | person 2 40 | tool 40 | tool 40 | lease 0 0 5 | lease 1 1 5 | wish 0 1 1 | wish 1 0 1")
                .is("swaps 0", 0).is("swaps 1", Due.NOT).is("swap 1 0", 2).refusedBy("swap 0 1", 5, 2)
                .is("fund 1 40 | swaps 0", 1).is("fund 1 40 | swaps 1", 1).is("fund 1 39 | swaps 1", Due.NOT);
        Edge.says(24, "GAIN of two TOOLS: what both WISHES rise by, together, if each is more").after(THREE_HOLDERS)
                .is("wish 0 1 1 | wish 1 0 1 | swap 0 1", 2).is("wish 0 1 9 | wish 1 0 9 | swap 0 1", 18)
                .is("wish 0 1 9 | wish 0 0 8 | wish 1 0 9 | wish 1 1 5 | swap 0 1", 5)
                .is("wish 0 1 9 | wish 0 0 9 | wish 1 0 9 | swaps 0", 0).is("wish 0 1 9 | swaps 0", 0)
                .is("wish 0 1 9 | wish 1 0 1 | wish 0 2 5 | wish 2 0 6 | swaps 1", 2)
                .is("wish 0 1 9 | wish 1 0 2 | wish 0 2 5 | wish 2 0 6 | swaps 1", 1)
                .is("wish 0 1 9 | wish 1 1 1 | wish 0 2 1 | wish 2 0 1 | swaps 1", 2);
        Edge.says(24, "BEST: that of most GAIN (10 times the lesser, and the other), of several the least")
                .after(THREE_HOLDERS)
                .is("swaps 1", Due.NOT).is("wish 0 1 1 | swaps 1", Due.NOT)
                .is("wish 0 1 1 | wish 1 0 1 | swaps 1", 1).is("wish 0 2 1 | wish 2 0 1 | swaps 1", 2)
                .is("wish 1 2 1 | wish 2 1 1 | swaps 1", 12)
                .is("wish 1 2 1 | wish 2 1 1 | wish 0 1 1 | wish 1 0 1 | swaps 1", 1)
                .is("wish 1 2 2 | wish 2 1 1 | wish 0 1 1 | wish 1 0 1 | swaps 1", 12)
                .is("wish 0 2 2 | wish 2 0 2 | wish 0 1 2 | wish 1 0 2 | swaps 1", 1)
                .is("wish 0 2 3 | wish 2 0 2 | wish 0 1 2 | wish 1 0 2 | swaps 1", 2)
                .is("wish 0 2 3 | wish 2 0 2 | wish 0 1 2 | wish 1 0 3 | swaps 1", 1)
                .is("wish 1 2 9 | wish 2 1 9 | wish 0 1 1 | wish 1 0 1 | days 6 | swaps 1", Due.NOT);
        Edge.says(24, "BEST: that of most GAIN").after("person 1 990 | person 2 990 | " + Edge.times(10, "tool 9")
                + " | " + Edge.times(9, "lease 0 # 5") + " | lease 1 9 5 | wish 0 9 9")
                .is("wish 1 8 1 | swaps 1", 89).is("wish 1 8 1 | wish 1 7 1 | swaps 1", 79)
                .is("wish 1 8 2 | wish 1 7 1 | swaps 1", 89).is("wish 1 8 9 | wish 1 0 9 | swaps 1", 9)
                .is(Edge.times(9, "wish 1 # 1") + " | swaps 0", 9);
    }

    private static void promise24Rings() {
        String ring = "wish 0 1 1 | wish 1 2 1 | wish 2 0 1";
        Edge.says(24, "RINGS: how many threes of TOOLS of unlike HOLDERS, t the least: t's wishes u more, u's wishes v "
                + "more, v's wishes t more (both ways about count; WISHES alone).").after(THREE_HOLDERS)
                .is("swaps 2", 0).is("wish 0 1 1 | wish 1 2 1 | swaps 2", 0).is(ring + " | swaps 2", 1)
                .is("wish 0 2 1 | wish 2 1 1 | wish 1 0 1 | swaps 2", 1)
                .is(ring + " | wish 0 2 1 | wish 2 1 1 | wish 1 0 1 | swaps 2", 2)
                .is(ring + " | wish 0 0 1 | swaps 2", 0).is(ring + " | wish 1 1 1 | swaps 2", 0)
                .is(ring + " | wish 2 2 1 | swaps 2", 0).is(ring + " | days 99 | swaps 2", 1)
                .is(ring + " | returned 0 | swaps 2", 0).is(ring + " | pass 0 1 | swaps 2", 0)
                .is(ring + " | tool 10 | lease 0 3 5 | wish 2 3 1 | swaps 2", 2)
                .is(ring + " | tool 9 | tool 9 | lease 0 3 5 | lease 1 4 5 | wish 0 4 1 | wish 2 3 1 | swaps 2", 4);
        Edge.says(24, "threes of TOOLS of unlike HOLDERS").after("person 1 200 | person 2 200 | tool 10 | tool 10 | "
                + "tool 10 | lease 0 0 5 | lease 1 1 5 | lease 0 2 5")
                .is("wish 0 1 9 | wish 1 0 9 | wish 1 2 9 | swaps 2", 0)
                .is("wish 0 1 9 | wish 1 2 9 | wish 0 0 1 | swaps 2", 0);
    }

    private static void promise24All() {
        Edge.says(24, "ALL: coins in PURSES, DEPOSITS, THE TILL.").after(TWO_AND_TWO)
                .is("swaps 3", 200).is("lease 0 0 5 | swaps 3", 200).is("lease 0 0 5 | days 9 | returned 0 | swaps 3", 200)
                .is("lease 0 0 5 | use 0 9 | look 0 | swaps 3", 200).is("fund 0 5 | swaps 3", 205)
                .is("!fund 0 0 | swaps 3", 200).is("lease 0 0 5 | pass 0 1 | swaps 3", 200)
                .is("tool 99 | lease 0 0 5 | lease 0 1 5 | use 0 9 | use 1 9 | look 0 | look 1 | swaps 3", 200);
        Edge.says(24, "so that no coin is lost").after("person 1 30 | tool 30 | lease 0 0 5 | use 0 9 | look 0")
                .is("swaps 3", 30).is("count 6", 30).is("fund 0 31 | swaps 3", 61).is("fund 0 31 | count 5", 30)
                .is("days 99 | returned 0 | swaps 3", 30).is("days 99 | returned 0 | count 5", 30);
    }

    private static void promise25() {
        Edge.says(25, "AHEAD: TOOLS (what 0), FEES (1). BAD.").after(TWO_AND_TWO + " | lease 0 0 5")
                .is("ahead 9 0", 1).is("ahead 9 1", 12).refusedFor("ahead 9 #", Due.BAD, -1, 2, 3, MIN, MAX)
                .refused("ahead 61 2", Due.BAD);
        Edge.says(25, "AHEAD n DAYS (0 .. 60)").after(TWO_AND_TWO + " | lease 0 0 5")
                .is("ahead 0 0", 0).is("ahead 0 1", 0).is("ahead 60 0", 1).is("ahead 60 1", 20)
                .refusedFor("ahead # 0", Due.BAD, -1, 61, MIN, MAX).refusedFor("ahead # 1", Due.BAD, -1, 61, MIN, MAX);
        Edge.says(25, "how many TOOLS would be DUE ago (DUE below DAY plus n)")
                .after("person 1 200 | tool 20 | tool 30 | tool 9 | lease 0 0 5 | lease 0 1 30")
                .is("ahead 5 0", 0).is("ahead 6 0", 1).is("ahead 30 0", 1).is("ahead 31 0", 2).is("ahead 60 0", 2)
                .is("days 5 | ahead 0 0", 0).is("days 5 | ahead 1 0", 1).is("days 6 | ahead 0 0", 1)
                .is("days 6 | returned 0 | ahead 0 0", 0).is("days 6 | returned 0 | ahead 60 0", 1)
                .is("days 6 | ahead 25 0", 2).is("days 6 | ahead 24 0", 1)
                .is("days 31 | ahead 0 0", 2);
    }

    private static void promise25Fees() {
        Edge.says(25, "what OWED of all would be together")
                .after("person 1 200 | tool 20 | tool 30 | tool 9 | lease 0 0 5 | lease 0 1 8")
                .is("ahead 5 1", 0).is("ahead 6 1", 3).is("ahead 8 1", 9).is("ahead 9 1", 16).is("ahead 11 1", 30)
                .is("ahead 12 1", 36).is("ahead 15 1", 48).is("ahead 16 1", 50).is("ahead 60 1", 50)
                .is("days 6 | ahead 0 1", 3).is("days 6 | told 0 2", 3).is("days 6 | ahead 3 1", 16)
                .is("days 99 | ahead 60 1", 50);
        Edge.says(25, "what OWED of all would be together").after("person 1 990 | " + Edge.times(10, "tool 99") + " | "
                + Edge.times(10, "lease 0 # 5"))
                .is("ahead 6 0", 10).is("ahead 6 1", 100).is("ahead 14 1", 900).is("ahead 15 1", 990)
                .is("ahead 60 1", 990).is("days 99 | ahead 60 1", 990);
    }

    private static void promise26() {
        Edge.says(26, "A LIST (tool -1: RANKED) told by the ROW in a HOLDER; NOT. BAD; -11; -12 (no ROW).")
                .after(TWO_AND_TWO + " | row 0 2 | row 5 2 | hold 1 1 0 | hold 2 2 0")
                .is("judge 0 -1", 1).is("judge 5 -1", 1).is("judge 0 0", 0).is("judge 0 1", 0)
                .refusedFor("judge # -1", Due.BAD, -1, 6, MIN, MAX)
                .refusedFor("judge 0 #", Due.BAD, -2, 2, 9, 10, MIN, MAX)
                .refused("judge 3 -1", Due.EMPTY).refused("judge 3 0", Due.EMPTY).refused("judge 3 2", Due.BAD)
                .refused("judge 1 -1", Due.SORT).refused("judge 2 0", Due.SORT).refused("judge 1 2", Due.BAD)
                .refused("hold 0 0 0 | judge 0 -1", Due.EMPTY).is("row 3 0 | judge 3 0", Due.NOT)
                .refused("hold 0 1 0 | judge 0 -1", Due.SORT);
    }

    private static void promise26Ranked() {
        Edge.says(26, "the first (from 0) that is told otherwise, or beyond; how many were told, if all are so and "
                + "there are more; NOT, if there are no more.")
                .after("person 2 5 | person 1 5 | person 3 5")
                .is("row 0 0 | judge 0 -1", 0).is("row 0 1 | judge 0 -1", 0).is("row 0 1 | put 0 0 1 | judge 0 -1", 1)
                .is("row 0 2 | put 0 0 1 | judge 0 -1", 2).is("row 0 2 | put 0 0 1 | put 0 1 2 | judge 0 -1", 1)
                .is("row 0 3 | put 0 0 1 | judge 0 -1", 2)
                .refused("row 0 3 | put 0 0 1 | put 0 2 2 | judge 0 -1", Due.NOT)
                .is("row 0 4 | put 0 0 1 | put 0 2 2 | judge 0 -1", 3)
                .is("row 0 60 | put 0 0 1 | put 0 2 2 | judge 0 -1", 3)
                .is("row 0 3 | put 0 0 -1 | judge 0 -1", 0).is("row 0 3 | put 0 0 1 | put 0 2 -2 | judge 0 -1", 2)
                .is("row 0 4 | put 0 0 1 | put 0 2 2 | put 0 3 -2 | judge 0 -1", 3)
                .is("row 0 4 | put 0 0 1 | put 0 2 2 | put 0 3 3 | judge 0 -1", 3)
                .is("row 0 3 | put 0 0 1 | put 0 2 2 | person 4 5 | judge 0 -1", 3)
                .is("row 0 3 | put 0 0 2147483647 | judge 0 -1", 0);
        Edge.says(26, "an empty ROW is 0, if there are any to tell").after("row 0 0 | tool 5")
                .refused("judge 0 -1", Due.NOT).refused("judge 0 0", Due.NOT).is("person 1 5 | judge 0 -1", 0)
                .refused("person 1 5 | judge 0 0", Due.NOT).is("person 1 5 | claim 0 0 1 | judge 0 0", 0)
                .is("row 1 1 | judge 1 -1", 0);
    }

    private static void promise26List() {
        Edge.says(26, "a TOOL's LIST: the first (from 0) that is told otherwise, or beyond")
                .after(Edge.times(10, "person 11# 10") + " | tool 5 | tool 5 | " + Edge.times(8, "claim # 1 101")
                        + " | row 0 8 | row 1 9 | row 2 7 | " + Edge.times(8, "put 0 # #") + " | "
                        + Edge.times(8, "put 1 # #") + " | " + Edge.times(7, "put 2 # #"))
                .refused("judge 0 1", Due.NOT).is("judge 1 1", 8).is("judge 2 1", 7).is("put 0 7 8 | judge 0 1", 7)
                .is("put 0 7 8 | waive 7 1 | claim 8 1 101 | put 0 7 9 | judge 0 1", 7)
                .refused("put 0 7 8 | waive 7 1 | claim 8 1 101 | judge 0 1", Due.NOT)
                .is("waive 7 1 | judge 0 1", 7).refused("waive 7 1 | judge 2 1", Due.NOT)
                .is("judge 0 0", 0).is("put 0 0 3 | judge 0 1", 0).is("judge 0 -1", 8);
        Edge.says(26, "RANKED (of all PERSONS), or a TOOL's LIST").after("person 2 5 | person 1 5 | tool 5 | "
                + "claim 0 0 901 | claim 1 0 101 | row 0 2 | row 1 2 | put 0 0 1 | put 1 1 1")
                .refused("judge 0 -1", Due.NOT).is("judge 0 0", 0).refused("judge 1 0", Due.NOT).is("judge 1 -1", 0);
    }
}
