/** Boundaries that the document names: promises 12 to 21, and the terms that they stand on. */
public final class EdgesOfDeedsTest {
    private static final int MIN = Integer.MIN_VALUE, MAX = Integer.MAX_VALUE;
    private static final int[] NO_PERSON_OF_TWO = {-1, 2, 11, 12, MIN, MAX};
    private static final int[] NO_TOOL_OF_TWO = {-1, 2, 9, 10, MIN, MAX};
    private static final String TWO_AND_TWO = "person 1 100 | person 2 100 | tool 20 | tool 30";
    /** Tool 0 with person 0, tool 1 with person 1, each DUE on 5; each wishes the other one 1 more. */
    private static final String TWO_TO_SWAP = "lease 0 0 5 | lease 1 1 5 | wish 0 1 1 | wish 1 0 1";
    private static final String LATE = "lease 0 0 1 | days 2 | returned 0";
    private static final String IN_TIME = "lease 0 0 1 | returned 0";

    public static void main(String[] args) {
        promise12();
        promise12Whys();
        promise12Claims();
        promise13();
        promise13List();
        promise13Order();
        promise14();
        promise15();
        promise15Fee();
        promise15Trust();
        promise15Link();
        promise15Offered();
        promise16();
        promise16Whys();
        promise17();
        promise17Wishes();
        promise17Passes();
        promise17Done();
        promise18();
        promise19();
        promise19Blamed();
        promise19Kept();
        promise19Cost();
        promise19Pays();
        promise20();
        promise21();
        promise21Stays();
        Edge.end(12, 21);
    }

    private static void promise12() {
        Edge.says(12, "LEASED for DAYS (1 .. 30): DUE. BAD; STATE.").after(TWO_AND_TWO)
                .is("lease 1 1 1", 1).is("lease 1 1 30", 30).is("days 99 | lease 1 1 30", 129)
                .refusedFor("lease 1 1 #", Due.BAD, 0, -1, 31, MIN, MAX)
                .refusedFor("lease # 1 5", Due.BAD, NO_PERSON_OF_TWO)
                .refusedFor("lease 1 # 5", Due.BAD, NO_TOOL_OF_TWO)
                .is("text l 1 1 1", 1).is("text l 1 1 30", 1).refused("text l 1 1 0", -2000)
                .refused("text l 1 1 31", -2000).refused("text l 2 1 5", -2000).refused("text l 1 2 5", -2000);
        Edge.says(12, "Answers, of several the one named first").after(TWO_AND_TWO + " | lease 0 0 5")
                .refused("lease 1 0 31", Due.BAD).refused("lease 1 0 0", Due.BAD).refused("lease 2 0 5", Due.BAD)
                .refusedBy("lease 1 0 30", 1);
        Edge.says(12, "that goes from the PURSE, and is the DEPOSIT; HOLDER since now, DUE at DAY plus DAYS, a LINK.")
                .after(TWO_AND_TWO + " | days 7 | lease 1 0 4")
                .is("personOf 1 1", 80).is("toolOf 0 5", 20).is("toolOf 0 2", 1).is("toolOf 0 3", 7)
                .is("toolOf 0 4", 11).is("toolOf 0 7", 1).is("link 0 0 0", 1).is("link 0 0 1", 7)
                .is("link 0 0 2", Due.NOT).is("personOf 0 1", 100).is("toolOf 1 2", Due.NOT);
    }

    private static void promise12Whys() {
        Edge.says(12, "LEASED is a TOOL AT THE OFFICE of WEAR below 9").after(TWO_AND_TWO)
                .is("lease 0 0 1 | use 0 8 | returned 0 | lease 1 0 1", 1)
                .refusedBy("lease 0 0 1 | use 0 9 | returned 0 | lease 1 0 1", 1)
                .refusedBy("lease 0 0 1 | use 0 8 | use 0 1 | returned 0 | lease 0 0 1", 1)
                .refusedBy("lease 0 0 1 | lease 0 0 1", 1).refusedBy("lease 0 0 1 | lease 1 0 1", 1)
                .is("lease 0 0 1 | returned 0 | lease 1 0 1", 1)
                .refused("lease 0 0 1 | text l 1 0 1", -2000);
        Edge.says(12, "to a PERSON whose PURSE has its WORTH").after("person 1 19 | tool 20 | tool 19")
                .refusedBy("lease 0 0 5", 2).is("fund 0 1 | lease 0 0 5", 5)
                .is("fund 0 1 | lease 0 0 5 | personOf 0 1", 0).is("lease 0 1 5 | personOf 0 1", 0)
                .refusedBy("lease 0 1 5 | tool 1 | lease 0 2 5", 2)
                .is("lease 0 1 5 | tool 1 | fund 0 1 | lease 0 2 5", 5).refused("text l 0 0 5", -2000);
        Edge.says(12, "A REFUSAL has whys, one by the other: of lease() 1 (not AT THE OFFICE, or WEAR 9; looked at "
                + "first), 2 (PURSE)")
                .after("person 1 19 | person 2 60 | tool 20")
                .refusedBy("lease 0 0 5", 2).refusedBy("lease 1 0 5 | lease 0 0 5", 1)
                .refusedBy("lease 1 0 5 | use 0 9 | returned 0 | lease 0 0 5", 1)
                .refusedBy("lease 1 0 5 | use 0 8 | returned 0 | lease 0 0 5", 2);
    }

    private static void promise12Claims() {
        Edge.says(12, "(CLAIMS on its LIST, his own too, stay by that, by PASSED, SWAPPED; "
                + "but the one by which it is OFFERED.)").after(TWO_AND_TWO + " | claim 0 0 101 | claim 1 0 101")
                .is("lease 0 0 5 | toolOf 0 6", 2).is("lease 0 0 5 | claimOf 0 0 0", 0)
                .is("lease 0 0 5 | pass 0 1 | toolOf 0 6", 2)
                .is("lease 0 0 5 | lease 1 1 5 | wish 0 1 1 | wish 1 0 1 | swap 0 1 | toolOf 0 6", 2)
                .is("lease 1 0 5 | returned 0 | toolOf 0 6", 1).is("lease 1 0 5 | returned 0 | claimOf 0 0 0", 1)
                .is("lease 1 0 5 | returned 0 | returned 0 | toolOf 0 6", 0);
    }

    private static void promise13() {
        Edge claim = Edge.says(13, "BAD (ud: 100 URGENCY, and DAYS)").after(TWO_AND_TWO);
        int[] taken = {1, 30, 101, 130, 201, 530, 801, 830, 901, 930};
        for (int ud : taken) {
            claim.is("claim 1 1 " + ud, 0).is("claim 1 1 " + ud + " | claimOf 1 0 1", ud / 100)
                    .is("claim 1 1 " + ud + " | claimOf 1 0 2", ud % 100);
        }
        claim.refusedFor("claim 1 1 #", Due.BAD, 0, 31, 99, 100, 131, 199, 200, 231, 899, 900, 931, 999, 1000, 1001,
                1030, 10101, -1, -99, -100, -101, MIN, MAX);
        Edge.says(13, "A CLAIM: its place on the LIST (from 0). BAD").after(TWO_AND_TWO)
                .refusedFor("claim # 1 101", Due.BAD, NO_PERSON_OF_TWO)
                .refusedFor("claim 1 # 101", Due.BAD, NO_TOOL_OF_TWO);
        Edge.says(13, "A CLAIM: a PERSON, URGENCY (0 .. 9), DAYS (1 .. 30), the DAY of it").after(TWO_AND_TWO)
                .is("text c 1 1 0 1", 1).is("text c 1 1 9 30", 1).is("text c 1 1 9 30 | claimOf 1 0 1", 9)
                .refused("text c 1 1 10 5", -2000).refused("text c 1 1 5 0", -2000)
                .refused("text c 1 1 5 31", -2000).refused("text c 1 1 999 999", -2000)
                .refused("text c 2 1 5 5", -2000).refused("text c 1 2 5 5", -2000)
                .is("claim 1 1 101 | claimOf 1 0 3", 0).is("days 99 | claim 1 1 101 | claimOf 1 0 3", 99);
        Edge.says(13, "STATE: he has one there, or is HOLDER").after(TWO_AND_TWO)
                .refused("claim 0 0 101 | claim 0 0 101", Due.STATE)
                .refused("claim 0 0 101 | claim 0 0 901", Due.STATE).is("claim 0 0 101 | claim 0 1 101", 0)
                .is("claim 0 0 101 | claim 1 0 101", 1).is("claim 0 0 101 | waive 0 0 | claim 0 0 102", 0)
                .refused("lease 0 0 5 | claim 0 0 101", Due.STATE).is("lease 0 0 5 | claim 0 1 101", 0)
                .is("lease 0 0 5 | claim 1 0 101", 0).is("lease 0 0 5 | returned 0 | claim 0 0 101", 0)
                .is("lease 0 0 5 | pass 0 1 | claim 0 0 101", 0)
                .refused("lease 0 0 5 | pass 0 1 | claim 1 0 101", Due.STATE)
                .refused("lease 0 0 5 | text c 0 0 1 1", -2000)
                .refused("lease 0 0 5 | claim 0 0 100", Due.BAD).is("lease 1 0 5 | !claim 1 0 101 | why 0", Due.NOT);
    }

    private static void promise13List() {
        String ten = Edge.times(10, "person 11# 10") + " | tool 5 | tool 5";
        Edge.says(13, "FULL: 8.").after(ten + " | " + Edge.times(7, "claim # 0 101"))
                .is("claim 7 0 101", 7).is("claim 7 0 901", 0).refused("claim 7 0 101 | claim 8 0 101", Due.FULL)
                .refused("claim 7 0 101 | claim 8 0 901", Due.FULL)
                .refused("claim 7 0 101 | text c 8 0 9 1", -2000)
                .is("claim 7 0 101 | waive 3 0 | claim 8 0 101", 7)
                .is("claim 7 0 101 | lease 9 0 5 | returned 0 | claim 8 0 101", 7);
        Edge.says(13, "on a TOOL's LIST (one of a PERSON at most; 8 in all at most)")
                .after(ten + " | " + Edge.times(8, "claim # 0 101"))
                .is("claim 8 1 101", 0).is(Edge.times(8, "claim # 1 101") + " | count 3", 16)
                .refused(Edge.times(8, "claim # 1 101") + " | claim 8 1 101", Due.FULL);
        Edge.says(13, "Answers, of several the one named first").after(ten + " | lease 9 0 5 | "
                + Edge.times(8, "claim # 0 101"))
                .refused("claim 3 0 101", Due.STATE).refused("claim 9 0 101", Due.STATE)
                .refused("claim 8 0 101", Due.FULL).refused("claim 8 0 100", Due.BAD)
                .refused("claim 3 0 131", Due.BAD).refused("claim 10 0 101", Due.BAD);
        Edge.says(13, "a CLAIM of a TOOL AT THE OFFICE doesn't offer it").after(ten)
                .is("claim 0 0 901 | toolOf 0 2", Due.NOT).is("claim 0 0 901 | personOf 0 1", 10)
                .is("claim 0 0 901 | look 0 | days 1 | toolOf 0 2", Due.NOT)
                .is("claim 0 0 901 | lease 1 0 5 | returned 0 | toolOf 0 2", 0);
    }

    private static void promise13Order() {
        String five = "person 1 5 | person 2 5 | person 3 5 | tool 5";
        Edge.says(13, "Those of more URGENCY go ahead").after(five + " | claim 1 0 501")
                .is("claim 0 0 601", 0).is("claim 0 0 430", 1).is("claim 2 0 601", 0).is("claim 2 0 430", 1)
                .is("days 1 | claim 0 0 601", 0).is("days 1 | claim 0 0 430", 1);
        Edge.says(13, "of the same those of the earlier DAY").after(five + " | claim 1 0 501")
                .is("days 1 | claim 0 0 501", 1).is("days 1 | claim 2 0 501", 1).is("claim 0 0 501", 0)
                .is("days 1 | claim 0 0 501 | waive 1 0 | days 1 | claim 1 0 501", 1);
        Edge.says(13, "of the same those of the lesser number of the PERSON.").after(five + " | claim 1 0 501")
                .is("claim 0 0 530", 0).is("claim 2 0 530", 1).is("claim 0 0 501", 0).is("claim 2 0 501", 1)
                .is("claim 2 0 501 | claim 0 0 501", 0).is("claim 0 0 501 | claim 2 0 501", 2);
    }

    private static void promise14() {
        String ten = Edge.times(10, "person 11# 10") + " | tool 5 | tool 5 | " + Edge.times(8, "claim # 0 101");
        Edge.says(14, "A CLAIM goes: how many are left.").after(ten)
                .is("waive 0 0", 7).is("waive 7 0", 7).is(Edge.times(7, "waive # 0") + " | waive 7 0", 0)
                .is("claim 0 1 101 | waive 0 0", 7).is("claim 0 1 101 | waive 0 1", 0)
                .is("waive 7 0 | claimOf 0 6 0", 6).is("waive 0 0 | claimOf 0 0 0", 1);
        Edge.says(14, "BAD; NOT: he has none there.").after(ten)
                .refused("waive 8 0", Due.NOT).refused("waive 0 1", Due.NOT).refused("waive 3 0 | waive 3 0", Due.NOT)
                .refusedFor("waive # 0", Due.BAD, -1, 10, 12, MIN, MAX)
                .refusedFor("waive 0 #", Due.BAD, NO_TOOL_OF_TWO)
                .refused("claim 9 1 101 | lease 8 1 5 | returned 1 | waive 9 1", Due.NOT);
    }

    private static void promise15() {
        Edge.says(15, "STATE: it is AT THE OFFICE.").after(TWO_AND_TWO)
                .refused("returned 0", Due.STATE).is("lease 0 0 5 | returned 0", 0)
                .refused("lease 0 0 5 | returned 0 | returned 0", Due.STATE)
                .refused("text r 0", -2000).is("lease 0 0 5 | text r 0", 1).refused("text r 2", -2000)
                .is("lease 0 1 5 | text r 1", 1).refused("text r 10", -2000)
                .refusedFor("returned #", Due.BAD, NO_TOOL_OF_TWO)
                .is("!lease 0 0 0 | !returned 0 | why 0", Due.NOT);
        Edge.says(15, "l: how many DAYS it is DUE ago (0 if not)").after(TWO_AND_TWO + " | lease 0 0 5")
                .is("returned 0", 0).is("days 4 | returned 0", 0).is("days 5 | returned 0", 0)
                .is("days 5 | returned 0 | personOf 0 2", 51).is("days 5 | returned 0 | personOf 0 3", 0)
                .is("days 6 | returned 0", 3).is("days 6 | returned 0 | personOf 0 2", 45)
                .is("days 6 | returned 0 | personOf 0 3", 1).is("days 7 | returned 0", 6);
    }

    private static void promise15Fee() {
        Edge fee = Edge.says(15, "the FEE: l times (1 plus WORTH over 10, cut), the DEPOSIT at most: to THE TILL")
                .after("person 1 200");
        int[][] firstDay = {{1, 1}, {9, 1}, {10, 2}, {19, 2}, {20, 3}, {29, 3}, {30, 4}, {89, 9}, {90, 10}, {99, 10}};
        for (int[] each : firstDay) {
            fee.is("tool " + each[0] + " | lease 0 0 1 | days 2 | returned 0", each[1])
                    .is("tool " + each[0] + " | lease 0 0 1 | days 2 | returned 0 | count 5", each[1]);
        }
        fee.is("tool 20 | lease 0 0 1 | days 7 | returned 0", 18)
                .is("tool 20 | lease 0 0 1 | days 8 | returned 0", 20)
                .is("tool 20 | lease 0 0 1 | days 9 | returned 0", 20)
                .is("tool 20 | lease 0 0 1 | days 9 | returned 0 | count 5", 20)
                .is("tool 30 | lease 0 0 1 | days 8 | returned 0", 28)
                .is("tool 30 | lease 0 0 1 | days 9 | returned 0", 30)
                .is("tool 1 | lease 0 0 1 | days 3 | returned 0", 1)
                .is("tool 9 | lease 0 0 1 | days 9 | returned 0", 8)
                .is("tool 9 | lease 0 0 1 | days 10 | returned 0", 9)
                .is("tool 9 | lease 0 0 1 | days 11 | returned 0", 9)
                .is("tool 90 | lease 0 0 1 | days 10 | returned 0", 90)
                .is("tool 99 | lease 0 0 1 | days 10 | returned 0", 90)
                .is("tool 99 | lease 0 0 1 | days 11 | returned 0", 99)
                .is("tool 99 | lease 0 0 1 | " + Edge.times(300, "days 99") + " | returned 0", 99);
        Edge.says(15, "the rest of it to the PURSE").after("person 1 20 | tool 20 | lease 0 0 1")
                .is("returned 0 | personOf 0 1", 20).is("days 2 | returned 0 | personOf 0 1", 17)
                .is("days 7 | returned 0 | personOf 0 1", 2).is("days 8 | returned 0 | personOf 0 1", 0)
                .is("days 8 | returned 0 | personOf 0 4", 0).is("days 8 | returned 0 | swaps 3", 20);
        Edge.says(15, "DEBT isn't paid by what RETURNED gives back")
                .after("person 1 20 | tool 20 | lease 0 0 1 | use 0 4")
                .is("returned 0 | personOf 0 4", 8).is("returned 0 | personOf 0 1", 20)
                .is("returned 0 | count 5", 0).is("look 0 | returned 0 | personOf 0 4", 8)
                .is("look 0 | returned 0 | personOf 0 1", 20)
                .is("fund 0 7 | returned 0 | personOf 0 4", 1).is("fund 0 8 | returned 0 | personOf 0 4", 0);
    }

    private static void promise15Trust() {
        Edge.says(15, "l above 0: LATE is 1 more, TRUST 5 less (0 at least)").after("person 1 99 | tool 1")
                .is(Edge.times(9, LATE) + " | personOf 0 2", 5).is(Edge.times(10, LATE) + " | personOf 0 2", 0)
                .is(IN_TIME + " | " + Edge.times(10, LATE) + " | personOf 0 2", 1)
                .is(IN_TIME + " | " + Edge.times(11, LATE) + " | personOf 0 2", 0)
                .is("lease 0 0 1 | use 0 1 | look 0 | returned 0 | " + Edge.times(9, LATE) + " | personOf 0 2", 5)
                .is("lease 0 0 1 | use 0 2 | look 0 | returned 0 | " + Edge.times(9, LATE) + " | personOf 0 2", 4)
                .is("lease 0 0 1 | use 0 2 | look 0 | returned 0 | " + Edge.times(10, LATE) + " | personOf 0 2", 0)
                .is(Edge.times(12, LATE) + " | personOf 0 3", 12);
        Edge.says(15, "else TRUST 1 more (99 at most)").after("person 1 99 | tool 1")
                .is(Edge.times(48, IN_TIME) + " | personOf 0 2", 98)
                .is(Edge.times(49, IN_TIME) + " | personOf 0 2", 99)
                .is(Edge.times(50, IN_TIME) + " | personOf 0 2", 99)
                .is(IN_TIME + " | personOf 0 3", 0);
        // TRUST is 0 by ten leases that ended late; a LOOK that takes 1 more leaves 0, and 1 more is 1.
        Edge.says(15, "RETURNED is a TOOL by its HOLDER: a LOOK; then l").after("person 1 99 | tool 1 | "
                + Edge.times(10, LATE) + " | lease 0 0 1 | use 0 1")
                .is("returned 0 | personOf 0 2", 1).is("look 0 | personOf 0 2", 0)
                .is("returned 0 | toolOf 0 8", 6).is("returned 0 | look 0", 0).is("days 3 | returned 0 | personOf 0 2", 0);
        Edge.says(15, "RETURNED is a TOOL by its HOLDER: a LOOK").after("person 1 20 | tool 20 | lease 0 0 1 | use 0 9")
                .is("returned 0 | toolOf 0 8", 2).is("returned 0 | seen 0 1 1", 9).is("returned 0 | personOf 0 4", 20)
                .is("returned 0 | personOf 0 1", 20).is("days 3 | returned 0 | personOf 0 4", 20)
                .is("days 3 | returned 0", 6).is("days 3 | returned 0 | personOf 0 1", 14)
                .is("fund 0 20 | returned 0 | personOf 0 4", 0).is("fund 0 20 | returned 0 | personOf 0 1", 20);
    }

    private static void promise15Link() {
        Edge.says(15, "the LINK ends now").after(TWO_AND_TWO + " | lease 0 0 5")
                .is("returned 0 | link 0 0 2", 0).is("days 1 | returned 0 | link 0 0 2", 1)
                .is("days 30 | returned 0 | link 0 0 2", 30).is("days 1 | returned 0 | days 1 | link 0 0 2", 1);
        Edge.says(15, "the LINK of who RETURNS a TOOL is open at the LOOK of that, so that PERSON is among those "
                + "BLAMED by the next one").after(TWO_AND_TWO + " | lease 0 0 5 | returned 0")
                .is("told 0 1", 1).is("lease 1 0 5 | told 0 1", 3).is("lease 1 0 5 | use 0 1 | look 0", 2)
                .is("look 0 | told 0 1", 0).is("look 0 | lease 1 0 5 | told 0 1", 2)
                .is("look 0 | lease 1 0 5 | use 0 1 | look 0", 1).is("lease 0 0 5 | use 0 1 | look 0", 1);
    }

    private static void promise15Offered() {
        String office = "person 1 200 | person 2 19 | person 3 20 | person 4 200 | tool 20";
        Edge.says(15, "the first CLAIM on its LIST whose PERSON it can be LEASED to goes from the LIST, and it is")
                .after(office + " | lease 0 0 5 | claim 1 0 905 | claim 2 0 805 | claim 3 0 705")
                .is("returned 0 | toolOf 0 2", 2).is("returned 0 | personOf 2 1", 0).is("returned 0 | toolOf 0 6", 2)
                .is("returned 0 | claimOf 0 0 0", 1).is("returned 0 | claimOf 0 1 0", 3)
                .is("fund 1 1 | returned 0 | toolOf 0 2", 1).is("fund 1 1 | returned 0 | personOf 1 1", 0)
                .is("waive 2 0 | returned 0 | toolOf 0 2", 3)
                .is("returned 0 | returned 0 | toolOf 0 2", 3)
                .is("returned 0 | returned 0 | returned 0 | toolOf 0 2", Due.NOT);
        Edge.says(15, "none: it stays").after(office + " | lease 0 0 5")
                .is("returned 0 | toolOf 0 2", Due.NOT).is("claim 1 0 905 | returned 0 | toolOf 0 2", Due.NOT)
                .is("claim 1 0 905 | returned 0 | toolOf 0 6", 1).is("claim 1 0 905 | returned 0 | toolOf 0 7", 1)
                .is("claim 2 0 905 | use 0 9 | returned 0 | toolOf 0 2", Due.NOT)
                .is("claim 2 0 905 | use 0 9 | returned 0 | toolOf 0 6", 1)
                .is("claim 2 0 905 | use 0 8 | returned 0 | toolOf 0 2", 2);
        Edge.says(15, "by OFFERED it is DUE at the DAY of that plus DAYS").after(office + " | lease 0 0 30")
                .is("claim 2 0 1 | returned 0 | toolOf 0 4", 1).is("claim 2 0 30 | returned 0 | toolOf 0 4", 30)
                .is("claim 2 0 1 | days 9 | returned 0 | toolOf 0 4", 10)
                .is("claim 2 0 30 | days 9 | returned 0 | toolOf 0 4", 39)
                .is("claim 2 0 30 | days 9 | returned 0 | toolOf 0 3", 9)
                .is("claim 2 0 30 | days 9 | returned 0 | link 0 1 1", 9);
        // Of a purse of 0 the DEPOSIT that comes back is just enough, and one FEE makes it too little.
        Edge.says(15, "it is OFFERED").after("person 1 20 | tool 20 | claim 0 0 905 | lease 0 0 5")
                .is("returned 0 | toolOf 0 2", 0).is("days 5 | returned 0 | toolOf 0 4", 10)
                .is("days 6 | returned 0 | toolOf 0 2", Due.NOT).is("days 6 | returned 0 | toolOf 0 6", 1)
                .is("days 6 | fund 0 3 | returned 0 | toolOf 0 2", 0)
                .is("days 6 | fund 0 2 | returned 0 | toolOf 0 2", Due.NOT);
    }

    private static void promise16() {
        Edge.says(16, "PASSED: 1. BAD (also: the PERSON is its HOLDER)").after(TWO_AND_TWO + " | lease 0 0 5")
                .is("pass 0 1", 1).refused("pass 0 0", Due.BAD).refused("pass 0 1 | pass 0 1", Due.BAD)
                .is("pass 0 1 | pass 0 0", 1).refusedFor("pass # 1", Due.BAD, NO_TOOL_OF_TWO)
                .refusedFor("pass 0 #", Due.BAD, NO_PERSON_OF_TWO)
                .refused("days 6 | pass 0 0", Due.BAD)
                .is("text g 0 1", 1).refused("text g 0 0", -2000).refused("text g 0 2", -2000);
        Edge.says(16, "STATE (also: it is AT THE OFFICE; THE REFUSAL stays then)").after(TWO_AND_TWO)
                .refused("pass 0 0", Due.STATE).refused("pass 0 1", Due.STATE)
                .is("!pass 0 1 | why 0", Due.NOT)
                .refused("lease 0 0 5 | days 6 | !pass 0 1 | returned 0 | pass 0 1", Due.STATE)
                .is("lease 0 0 5 | days 6 | !pass 0 1 | returned 0 | !pass 0 1 | why 0", 6)
                .is("lease 0 0 5 | days 6 | !pass 0 1 | returned 0 | !pass 0 1 | why 1", 3)
                .is("lease 0 0 5 | !lease 0 0 5 | returned 0 | !pass 0 1 | why 0", 1)
                .refused("pass 0 2", Due.BAD).refused("text g 0 1", -2000);
        Edge.says(16, "that goes from his PURSE to the HOLDER's; he is HOLDER since now (DUE, DEPOSIT stay); "
                + "the LINK ends, a new one comes.").after(TWO_AND_TWO + " | lease 0 0 5 | days 3 | pass 0 1")
                .is("personOf 0 1", 100).is("personOf 1 1", 80).is("toolOf 0 2", 1).is("toolOf 0 3", 3)
                .is("toolOf 0 4", 5).is("toolOf 0 5", 20).is("toolOf 0 7", 2).is("link 0 0 2", 3)
                .is("link 0 1 0", 1).is("link 0 1 1", 3).is("link 0 1 2", Due.NOT).is("toolOf 0 8", 1)
                .is("personOf 0 2", 50).is("personOf 1 2", 50).is("count 5", 0)
                .is("days 3 | returned 0", 3).is("days 3 | returned 0 | personOf 1 1", 97)
                .is("days 3 | returned 0 | personOf 0 3", 0);
    }

    private static void promise16Whys() {
        Edge.says(16, "PASSED is a TOOL to another PERSON").after(TWO_AND_TWO + " | lease 0 0 5 | days 6")
                .refused("pass 0 0", Due.BAD).refusedBy("pass 0 1", 6, 3).is("!pass 0 0 | why 0", Due.NOT);
        Edge.says(16, "pass() 6 by 2 or 3").after(TWO_AND_TWO + " | person 3 19 | lease 0 0 5")
                .refusedBy("pass 0 2", 6, 2).refusedBy("days 6 | pass 0 1", 6, 3).refusedBy("days 6 | pass 0 2", 6, 3)
                .refusedBy("days 5 | pass 0 2", 6, 2).is("days 5 | pass 0 1", 1);
        Edge.says(16, "if DAY isn't beyond DUE (why 3, that is looked at first)")
                .after(TWO_AND_TWO + " | person 3 19 | lease 0 0 5")
                .is("pass 0 1", 1).is("days 4 | pass 0 1", 1).is("days 5 | pass 0 1", 1)
                .refusedBy("days 6 | pass 0 1", 6, 3).refusedBy("days 99 | pass 0 1", 6, 3)
                .refusedBy("days 5 | pass 0 2", 6, 2).refusedBy("days 6 | pass 0 2", 6, 3)
                .refused("days 6 | text g 0 1", -2000);
        Edge.says(16, "his PURSE has the DEPOSIT (why 2)").after(TWO_AND_TWO + " | person 3 19 | lease 0 0 5")
                .refusedBy("pass 0 2", 6, 2).is("fund 2 1 | pass 0 2", 1).is("fund 2 1 | pass 0 2 | personOf 2 1", 0)
                .is("fund 2 1 | use 0 9 | pass 0 2", 1).refused("text g 0 2", -2000)
                .is("fund 2 1 | tool 1 | lease 2 2 1 | !pass 0 2 | why 1", 2);
        Edge.says(16, "beyond that by what comes back to it").after("person 1 9999 | person 2 99 | tool 99 | "
                + "lease 0 0 5 | fund 0 99")
                .is("pass 0 1 | personOf 0 1", 10098).is("pass 0 1 | personOf 1 1", 0)
                .refused("pass 0 1 | fund 0 1", Due.STATE);
    }

    private static void promise17() {
        Edge.says(17, "BAD (also: alike, one AT THE OFFICE, one HOLDER of both)")
                .after("person 1 200 | person 2 200 | tool 20 | tool 30 | tool 5 | tool 6 | lease 0 2 5 | "
                        + TWO_TO_SWAP)
                .is("swap 0 1", 2).is("swap 1 0", 2).refused("swap 0 0", Due.BAD).refused("swap 1 1", Due.BAD)
                .refused("swap 3 3", Due.BAD).refused("swap 0 3", Due.BAD).refused("swap 3 0", Due.BAD)
                .refused("swap 0 2", Due.BAD).refused("swap 2 0", Due.BAD).refusedBy("swap 1 2", 4)
                .refusedFor("swap # 1", Due.BAD, -1, 4, 9, 10, MIN, MAX)
                .refusedFor("swap 0 #", Due.BAD, -1, 4, 9, 10, MIN, MAX)
                .refused("returned 0 | swap 0 1", Due.BAD).refused("returned 1 | swap 0 1", Due.BAD)
                .refused("pass 0 1 | swap 0 1", Due.BAD).is("!swap 0 0 | !swap 0 3 | !swap 0 2 | why 0", Due.NOT)
                .is("text s 0 1", 1).refused("text s 0 0", -2000).refused("text s 0 3", -2000)
                .refused("text s 0 2", -2000).refused("text s 0 4", -2000).refused("days 6 | swap 0 2", Due.BAD);
    }

    private static void promise17Wishes() {
        Edge.says(17, "if each wishes the other one more than his own (why 4)")
                .after(TWO_AND_TWO + " | lease 0 0 5 | lease 1 1 5")
                .refusedBy("swap 0 1", 4).refusedBy("wish 0 1 1 | swap 0 1", 4).refusedBy("wish 1 0 1 | swap 0 1", 4)
                .is("wish 0 1 1 | wish 1 0 1 | swap 0 1", 2)
                .refusedBy("wish 0 1 5 | wish 0 0 5 | wish 1 0 9 | swap 0 1", 4)
                .refusedBy("wish 0 1 5 | wish 1 0 5 | wish 1 1 5 | swap 0 1", 4)
                .refusedBy("wish 0 1 5 | wish 1 0 5 | wish 1 1 6 | swap 0 1", 4)
                .is("wish 0 1 5 | wish 0 0 4 | wish 1 0 9 | wish 1 1 8 | swap 0 1", 2)
                .is("wish 0 1 9 | wish 1 0 9 | swap 0 1", 18).is("wish 0 1 9 | wish 1 0 1 | swap 1 0", 10)
                .refused("text s 0 1", -2000)
                .refusedBy("days 6 | swap 0 1", 4).refusedBy("wish 0 1 9 | days 6 | swap 0 1", 4);
    }

    private static void promise17Passes() {
        Edge.says(17, "the first can be PASSED").after("person 1 40 | person 2 49 | tool 40 | tool 30 | " + TWO_TO_SWAP)
                .refusedBy("swap 0 1", 5, 2).is("fund 1 21 | swap 0 1", 2).refusedBy("fund 1 20 | swap 0 1", 5, 2)
                .is("fund 1 21 | swap 0 1 | personOf 1 1", 30).is("fund 1 21 | swap 0 1 | personOf 0 1", 10)
                .is("fund 1 21 | days 5 | swap 0 1", 2).refusedBy("fund 1 21 | days 6 | swap 0 1", 5, 3)
                .refusedBy("days 6 | swap 0 1", 5, 3);
        // Person 0 has nothing but the 40 that the first one brings, and 1 has a purse of 40.
        Edge.says(17, "then (as it is then) the second (why 5, by why 2 or 3 of that)")
                .after("person 1 40 | person 2 80 | tool 40 | tool 39 | tool 40 | tool 41 | lease 0 0 5 | "
                        + "wish 0 1 1 | wish 0 2 1 | wish 0 3 1 | wish 1 0 1")
                .is("lease 1 1 5 | swap 0 1", 2).is("lease 1 1 5 | swap 0 1 | personOf 0 1", 1)
                .is("lease 1 2 5 | swap 0 2", 2).is("lease 1 2 5 | swap 0 2 | personOf 0 1", 0)
                .is("lease 1 2 5 | swap 0 2 | personOf 1 1", 40)
                .refusedBy("fund 1 1 | lease 1 3 5 | swap 0 3", 5, 2).is("fund 1 1 | fund 0 1 | lease 1 3 5 | swap 0 3", 2)
                .refusedBy("lease 1 2 3 | days 4 | swap 0 2", 5, 3).is("lease 1 2 3 | days 3 | swap 0 2", 2)
                .refusedBy("fund 1 1 | lease 1 3 3 | days 4 | swap 0 3", 5, 3)
                .refusedBy("lease 1 2 9 | days 6 | swap 0 2", 5, 3);
        Edge.says(17, "swap() takes its TOOLS as they are told, the first ahead")
                .after("person 1 40 | person 2 80 | tool 40 | tool 40 | " + TWO_TO_SWAP)
                .is("swap 0 1", 2).refusedBy("swap 1 0", 5, 2).is("text s 0 1", 1).refused("text s 1 0", -2000)
                .is("fund 0 40 | swap 1 0", 2).refusedBy("fund 0 39 | swap 1 0", 5, 2)
                .is("fund 0 40 | swap 1 0 | toolOf 0 2", 1);
        Edge.says(17, "its whys are 4, or 5 and one more").after("person 1 40 | person 2 49 | tool 40 | tool 30 | "
                + TWO_TO_SWAP)
                .refusedBy("wish 0 1 0 | swap 0 1", 4).refusedBy("swap 0 1", 5, 2)
                .is("!swap 0 1 | wish 0 1 0 | !swap 0 1 | why 1", Due.NOT)
                .is("!swap 0 1 | wish 0 1 0 | !swap 0 1 | why 0", 4);
    }

    private static void promise17Done() {
        Edge.says(17, "if not, nothing is done").after("person 1 40 | person 2 81 | tool 40 | tool 41 | claim 0 1 101 | "
                + "row 0 2 | image | " + TWO_TO_SWAP)
                .refusedBy("swap 0 1", 5, 2).refusedBy("swap 1 0", 5, 2).is("!swap 0 1 | toolOf 0 2", 0)
                .is("!swap 0 1 | personOf 1 1", 40).is("!swap 0 1 | toolOf 0 7", 1).is("fund 0 1 | swap 0 1", 2);
        Edge.says(17, "swap() 4, or 5 by 2 or 3.").after("person 1 200 | person 2 79 | tool 40 | tool 40 | " + TWO_TO_SWAP)
                .refusedBy("swap 0 1", 5, 2).refusedBy("fund 1 1 | wish 0 0 1 | swap 0 1", 4)
                .refusedBy("fund 1 1 | days 6 | swap 0 1", 5, 3).is("fund 1 1 | days 5 | swap 0 1", 2);
        Edge.says(17, "SWAPPED: GAIN.").after(TWO_AND_TWO + " | lease 0 0 5 | lease 1 1 9 | wish 0 1 4 | wish 1 0 3 "
                + "| wish 1 1 1 | claim 1 0 101 | days 2 | swap 0 1")
                .is("toolOf 0 2", 1).is("toolOf 1 2", 0).is("toolOf 0 3", 2).is("toolOf 1 3", 2).is("toolOf 0 4", 5)
                .is("toolOf 1 4", 9).is("toolOf 0 5", 20).is("toolOf 1 5", 30).is("personOf 0 1", 70)
                .is("personOf 1 1", 80).is("link 0 0 2", 2).is("link 1 0 2", 2).is("link 0 1 0", 1).is("link 1 1 0", 0)
                .is("toolOf 0 6", 1).is("toolOf 0 8", 1).is("personOf 0 2", 50).is("personOf 0 3", 0)
                .refusedBy("swap 0 1", 4).is("swaps 3", 200);
    }

    private static void promise18() {
        Edge.says(18, "WEAR is n (1 .. 9) more, 9 at most: what it is.").after(TWO_AND_TWO + " | lease 0 0 5")
                .is("use 0 1", 1).is("use 0 9", 9).refusedFor("use 0 #", Due.BAD, 0, -1, 10, MIN, MAX)
                .refusedFor("use # 5", Due.BAD, NO_TOOL_OF_TWO)
                .is("use 0 8 | use 0 1", 9).is("use 0 8 | use 0 2", 9).is("use 0 9 | use 0 1", 9)
                .is("use 0 9 | use 0 9 | toolOf 0 1", 9).is("use 0 7 | use 0 1", 8)
                .is("text u 0 1", 1).is("text u 0 9", 1).refused("text u 0 0", -2000).refused("text u 0 10", -2000)
                .is("use 0 9 | text u 0 9", 1);
        Edge.says(18, "BAD; STATE: it is AT THE OFFICE.").after(TWO_AND_TWO)
                .refused("use 0 1", Due.STATE).refused("use 0 0", Due.BAD).refused("use 0 10", Due.BAD)
                .is("lease 0 0 5 | use 0 1", 1).refused("lease 0 0 5 | returned 0 | use 0 1", Due.STATE)
                .refused("text u 0 1", -2000);
    }

    private static void promise19() {
        Edge.says(19, "A LOOK: how many are BLAMED. BAD.").after(TWO_AND_TWO)
                .is("look 0", 0).is("look 1", 0).refusedFor("look #", Due.BAD, NO_TOOL_OF_TWO)
                .refused("text k 2", -2000).is("text k 1", 1);
        Edge.says(19, "A LOOK at a TOOL: it is put to LOOKS").after(TWO_AND_TWO + " | days 2")
                .is("look 0 | toolOf 0 8", 2).is("look 0 | seen 0 1 0", 2).is("look 0 | seen 0 1 1", 0)
                .is("look 0 | toolOf 1 8", 1).is("lease 0 0 5 | use 0 3 | look 0 | seen 0 1 1", 3);
        Edge.says(19, "if WEAR is n more than at the LOOK ahead").after(TWO_AND_TWO + " | lease 0 0 5")
                .is("look 0", 0).is("use 0 1 | look 0", 1).is("use 0 1 | look 0 | look 0", 0)
                .is("use 0 1 | look 0 | use 0 1 | look 0", 1).is("look 0 | personOf 0 2", 50)
                .is("use 0 1 | look 0 | personOf 0 2", 49).is("use 0 1 | look 0 | look 0 | personOf 0 2", 49)
                .is("use 0 9 | look 0 | use 0 9 | look 0", 0).is("use 0 9 | look 0 | personOf 0 2", 41)
                .is("use 0 8 | look 0 | use 0 9 | look 0 | personOf 0 2", 41)
                .is("use 0 5 | look 0 | use 0 3 | look 0 | personOf 0 1", 63);
    }

    private static void promise19Blamed() {
        String four = "person 1 100 | person 2 100 | person 3 100 | person 4 100 | tool 18";
        Edge.says(19, "BLAMED are the PERSONS of LINKS that came since that LOOK (by how many ever were)").after(four)
                .is("lease 0 0 5 | look 0 | pass 0 1 | use 0 1 | look 0", 2)
                .is("lease 0 0 5 | pass 0 1 | look 0 | use 0 1 | look 0", 1)
                .is("lease 0 0 5 | pass 0 1 | look 0 | use 0 1 | look 0 | personOf 0 1", 100)
                .is("lease 0 0 5 | pass 0 1 | pass 0 2 | use 0 1 | look 0", 3)
                .is(Edge.times(9, "lease 0 0 5 | returned 0") + " | look 0 | told 0 1", 0)
                .is(Edge.times(9, "lease 0 0 5 | returned 0") + " | look 0 | lease 1 0 5 | told 0 1", 2)
                .is(Edge.times(9, "lease 0 0 5 | returned 0") + " | look 0 | lease 1 0 5 | use 0 1 | look 0", 1)
                .is(Edge.times(9, "lease 0 0 5 | returned 0") + " | lease 1 0 5 | told 0 1", 3);
        Edge.says(19, "and of the one that was the latest then, if that was open").after(four + " | lease 0 0 5")
                .is("look 0 | use 0 1 | look 0", 1).is("look 0 | told 0 1", 1).is("look 0 | pass 0 1 | told 0 1", 3)
                .is("returned 0 | look 0 | told 0 1", 0).is("returned 0 | look 0 | lease 1 0 5 | told 0 1", 2)
                .is("pass 0 1 | look 0 | told 0 1", 2).is("pass 0 1 | look 0 | pass 0 2 | told 0 1", 6);
        Edge.says(19, "open is as it was at that LOOK").after(four + " | lease 0 0 5 | look 0")
                .is("pass 0 1 | told 0 1", 3).is("returned 0 | told 0 1", 1).is("returned 0 | lease 1 0 5 | told 0 1", 3)
                .is("days 3 | pass 0 1 | use 0 1 | look 0 | personOf 0 2", 49);
        Edge.says(19, "each once, in their order").after(four + " | lease 1 0 5 | pass 0 0 | pass 0 1 | use 0 1")
                .is("look 0", 2).is("look 0 | personOf 1 2", 49).is("share 0 1", 1).is("share 0 0", 1)
                .is("pass 0 2 | look 0", 3).is("pass 0 2 | share 0 1", 2).is("pass 0 2 | share 0 0", 0)
                .is("pass 0 2 | share 0 2", 0).is("pass 0 0 | pass 0 1 | look 0", 2);
    }

    private static void promise19Kept() {
        String ten = Edge.times(10, "person 11# 100") + " | tool 90 | lease 0 0 5 | look 0 | "
                + Edge.times(8, "pass 0 #").substring("pass 0 0 | ".length());
        // At the LOOK the LINK of person 0 was open; with those of 1 .. 7 there are eight.
        Edge.says(19, "LINKS that are kept no more: none").after(ten)
                .is("told 0 1", 255).is("use 0 8 | look 0", 8).is("use 0 8 | share 0 0", 10)
                .is("pass 0 8 | told 0 1", 510).is("pass 0 8 | use 0 8 | look 0", 8)
                .is("pass 0 8 | use 0 8 | share 0 0", 0).is("pass 0 8 | use 0 8 | share 0 1", 10)
                .is("pass 0 8 | use 0 8 | look 0 | personOf 0 2", 50)
                .is("pass 0 8 | pass 0 9 | told 0 1", 1020)
                .is("pass 0 8 | pass 0 0 | told 0 1", 509);
    }

    private static void promise19Cost() {
        Edge cost = Edge.says(19, "COST: WORTH times n, over 9, cut").after("person 1 300");
        int[][] worthWearCost = {{1, 1, 0}, {1, 8, 0}, {1, 9, 1}, {8, 1, 0}, {9, 1, 1}, {10, 1, 1}, {17, 1, 1},
            {18, 1, 2}, {4, 2, 0}, {5, 2, 1}, {99, 1, 11}, {99, 8, 88}, {99, 9, 99}, {98, 1, 10}, {50, 5, 27}};
        for (int[] each : worthWearCost) {
            String used = "tool " + each[0] + " | lease 0 0 5 | use 0 " + each[1];
            cost.is(used + " | share 0 0", each[2]).is(used + " | look 0", 1)
                    .is(used + " | look 0 | personOf 0 1", 300 - each[0] - each[2])
                    .is(used + " | look 0 | count 5", each[2]).is(used + " | look 0 | personOf 0 2", 50 - each[1]);
        }
        Edge shared = Edge.says(19, "each pays COST over how many are BLAMED, cut; the first one what is left over, too")
                .after("person 1 300 | person 2 300 | person 3 300");
        int[][] worthFirstOthers = {{9, 1, 0}, {18, 2, 0}, {27, 1, 1}, {36, 2, 1}, {45, 3, 1}, {54, 2, 2}, {8, 0, 0}};
        for (int[] each : worthFirstOthers) {
            String used = "tool " + each[0] + " | lease 2 0 5 | pass 0 0 | pass 0 1 | use 0 1";
            shared.is(used + " | share 0 2", each[1]).is(used + " | share 0 0", each[2])
                    .is(used + " | share 0 1", each[2]).is(used + " | look 0 | personOf 2 1", 300 - each[1])
                    .is(used + " | look 0 | personOf 0 1", 300 - each[2])
                    .is(used + " | look 0 | count 5", each[1] + 2 * each[2]);
        }
        Edge.says(19, "There is one at least").after("person 1 20 | tool 1 | lease 0 0 5 | use 0 1")
                .is("look 0", 1).is("look 0 | count 5", 0).is("look 0 | personOf 0 2", 49)
                .is("look 0 | personOf 0 4", 0).is("returned 0 | look 0", 0);
    }

    private static void promise19Pays() {
        Edge.says(19, "from the PURSE, as much as it has, to THE TILL; what lacks is his DEBT more")
                .after("person 1 20 | tool 20 | lease 0 0 5 | use 0 4")
                .is("look 0 | personOf 0 4", 8).is("look 0 | count 5", 0)
                .is("fund 0 7 | look 0 | personOf 0 4", 1).is("fund 0 7 | look 0 | personOf 0 1", 0)
                .is("fund 0 7 | look 0 | count 5", 7)
                .is("fund 0 8 | look 0 | personOf 0 4", 0).is("fund 0 8 | look 0 | personOf 0 1", 0)
                .is("fund 0 8 | look 0 | count 5", 8)
                .is("fund 0 9 | look 0 | personOf 0 4", 0).is("fund 0 9 | look 0 | personOf 0 1", 1)
                .is("look 0 | use 0 5 | look 0 | personOf 0 4", 19).is("fund 0 7 | look 0 | swaps 3", 27)
                .is("look 0 | count 6", 8);
        // TRUST is 5 by nine leases that ended late.
        Edge.says(19, "TRUST of each is n less (0 at least)").after("person 1 99 | tool 1 | "
                + Edge.times(9, LATE) + " | lease 0 0 5")
                .is("personOf 0 2", 5).is("use 0 4 | look 0 | personOf 0 2", 1)
                .is("use 0 5 | look 0 | personOf 0 2", 0).is("use 0 6 | look 0 | personOf 0 2", 0)
                .is("use 0 9 | look 0 | personOf 0 2", 0).is("use 0 5 | look 0 | use 0 4 | look 0 | personOf 0 2", 0);
    }

    private static void promise20() {
        Edge.says(20, "n DAYS (1 .. 99) go: DAY. BAD.").is("days 1", 1).is("days 99", 99)
                .refusedFor("days #", Due.BAD, 0, -1, 100, MIN, MAX)
                .refusedFor("days 5 | days #", Due.BAD, 0, -1, 100, MIN, MAX)
                .is("days 99 | days 99", 198).is("days 5 | !days 100 | days 1", 6).is("days 5 | count 4", 5)
                .is("text d 1 | count 4", 1).is("text d 99 | count 4", 99).refused("text d 0", -2000)
                .refused("text d 100", -2000);
    }

    private static void promise21() {
        Edge.says(21, "The i-th why of THE REFUSAL, the last cause behind. BAD (i below 0); NOT.")
                .after(TWO_AND_TWO + " | lease 0 0 5")
                .refusedFor("why #", Due.NOT, 0, 1, 2, MAX).refusedFor("why #", Due.BAD, -1, MIN)
                .is("!lease 1 0 5 | why 0", 1).refusedFor("!lease 1 0 5 | why #", Due.NOT, 1, 2, MAX)
                .refusedFor("!lease 1 0 5 | why #", Due.BAD, -1, MIN)
                .is("days 6 | !pass 0 1 | why 0", 6).is("days 6 | !pass 0 1 | why 1", 3)
                .refusedFor("days 6 | !pass 0 1 | why #", Due.NOT, 2, 3, MAX)
                .refused("days 6 | !pass 0 1 | why -1", Due.BAD);
        Edge.says(21, "that of the latest such call (LINES of a TEXT are none) that was answered STATE by a why")
                .after(TWO_AND_TWO + " | lease 0 0 5 | lease 1 1 5 | days 6 | !pass 0 1")
                .is("!lease 1 0 5 | why 0", 1).is("!lease 1 0 5 | why 1", Due.NOT).is("!swap 0 1 | why 0", 4)
                .is("!swap 0 1 | why 1", Due.NOT).is("wish 0 1 1 | wish 1 0 1 | !swap 0 1 | why 0", 5)
                .is("wish 0 1 1 | wish 1 0 1 | !swap 0 1 | why 1", 3)
                .refused("text l 1 0 5", -2000).refused("text s 0 1", -2000).refused("text g 0 1", -2000)
                .is("!lease 1 0 5 | !text g 0 1 | why 0", 1).is("text d 1;k 0 | why 0", 6);
    }

    private static void promise21Stays() {
        Edge stays = Edge.says(21, "other answers leave it; an IMAGE keeps it, too.")
                .after(TWO_AND_TWO + " | tool 40 | lease 0 0 5 | lease 1 1 5 | days 6 | !pass 0 1");
        String[] others = {"!lease 0 2 0", "lease 0 2 5", "!pass 0 0", "!pass 2 0", "!pass 0 9", "!swap 0 0",
            "!swap 0 2", "returned 0", "!returned 2", "!claim 0 0 101", "claim 1 0 101", "!waive 0 0", "!use 2 1",
            "look 0", "days 3", "!fund 0 0", "!person 1 5", "!tool 0", "!back", "image", "!script", "type d 1",
            "!why -1", "told 0 1", "swaps 0", "ahead 9 1", "hold 0 1 1", "row 1 5", "!judge 5 0", "count 3"};
        for (String other : others) {
            stays.is(other + " | why 0", 6).is(other + " | why 1", 3).is(other + " | why 2", Due.NOT);
        }
        stays.is("image | !lease 0 0 5 | why 0", 1).is("image | !lease 0 0 5 | back | why 0", 6)
                .is("image | !lease 0 0 5 | back | why 1", 3);
        Edge.says(21, "an IMAGE keeps it, too.").after(TWO_AND_TWO + " | lease 0 0 5 | image")
                .is("!lease 0 0 5 | why 0", 1).is("!lease 0 0 5 | back | why 0", Due.NOT)
                .is("!lease 0 0 5 | image | back | why 0", 1);
    }
}
