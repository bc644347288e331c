import java.util.regex.Matcher;
import java.util.regex.Pattern;

/** Boundaries that the document names: promises 27 to 35, and the terms that they stand on. */
public final class EdgesOfTextsAndHoldersTest {
    private static final int MIN = Integer.MIN_VALUE, MAX = Integer.MAX_VALUE, VOID = LeaseOffice.VOID;
    private static final String TWO_AND_TWO = "person 1 100 | person 2 100 | tool 20 | tool 30";
    private static final String[] LINES = {"p abc 100", "p a 0", "t 7", "w 0 1 9", "l 0 11 5", "c 0 1 9 30", "r 0",
        "g 0 1", "s 0 1", "u 1 333", "k 0", "d 99", "k 0;k 000", "p a 1;d 2;t 3", "c 1 2 3 4;p zz 9"};

    public static void main(String[] args) {
        promise27();
        promise28();
        promise28Parts();
        promise28Form();
        promise28EveryFault();
        promise28Refused();
        promise28AsItWas();
        promise28Tape();
        promise29();
        promise30();
        promise30Holders();
        promise31();
        promise32();
        promise33();
        promise33Values();
        promise34();
        promise34Sorts();
        promise35();
        promise35Counts();
        Edge.end(27, 35);
    }

    private static String bytes(int n) {
        return "type " + "k".repeat(n);
    }

    private static void promise27() {
        Edge.says(27, "A byte (0 .. 255) comes to THE TAPE: how many it has.").is("feed 0", 1).is("feed 255", 1)
                .refusedFor("feed #", Due.BAD, -1, 256, MIN, MAX).is("feed 0 | feed 255", 2)
                .is("feed 0 | !feed 256 | !feed -1 | count 7", 1).refusedFor("feed 0 | feed #", Due.BAD, -1, 256);
        Edge.says(27, "BAD, FULL (120).").is(bytes(119) + " | feed 48", 120).is(bytes(119) + " | count 7", 119)
                .refused(bytes(120) + " | feed 48", Due.FULL).refused(bytes(120) + " | feed 256", Due.BAD)
                .refused(bytes(120) + " | feed -1", Due.BAD).is(bytes(120) + " | !feed 48 | count 7", 120)
                .is(bytes(120) + " | !script | feed 48", 1);
    }

    private static void promise28() {
        Edge.says(28, "THE TAPE's TEXT is done: how many LINES").after(TWO_AND_TWO)
                .is("text k 0", 1).is("text k 0;k 0", 2).is("text " + "k 0;".repeat(28) + "k 0", 29)
                .is("text " + "k 0;".repeat(29) + "k 0", 30).is("text " + "k 0;".repeat(29) + "k 000 | days 1", 1)
                .is("text " + "k 0;".repeat(29) + "k 00", 30).is("text " + "d 1;".repeat(29) + "d 1 | count 4", 30);
        Edge.says(28, "LINES with ; between").after(TWO_AND_TWO).is("text k 0;k 1", 2).refused("text ;k 0", -1000)
                .refused("text k 0;", -1004).refused("text k 0;;k 1", -1004).refused("text k 0 k 1", -1003)
                .refused("text k 0:k 1", -1003);
        Edge.says(28, "Else the LINES are done").after(TWO_AND_TWO).is("text d 1;d 2 | count 4", 3)
                .is("!text d 1;d | count 4", 0).is("!text d 1;d 100 | count 4", 0)
                .is("text t 5;w 0 2 7;w 0 2 8 | wish 0 2 0", 8).is("text l 0 0 5;r 0;l 1 0 5 | toolOf 0 2", 1);
        Edge.says(28, "a NAME of 1 to 3 letters").is("text p a 5", 1).is("text p abc 5", 1).is("text p zzz 5", 1)
                .refused("text p  5", -1002).refused("text p abcd 5", -1005).refused("text p A 5", -1002)
                .refused("text p ` 5", -1002).refused("text p { 5", -1002).refused("text p a` 5", -1003)
                .refused("text p ab{ 5", -1004).refused("text p 1 5", -1002).refused("text p a1 5", -1003);
        Edge.says(28, "numbers of 1 to 3 digits").after(TWO_AND_TWO)
                .is("text t 1", 1).is("text t 01", 1).is("text t 001", 1).is("text t 099", 1)
                .refused("text t ", -1002).refused("text t 0001", -1005).refused("text t 1000", -1005)
                .refused("text t -1", -1002).refused("text t +1", -1002).refused("text t /", -1002)
                .refused("text t :", -1002).refused("text t 1:", -1003).refused("text t a", -1002)
                .is("text w 000 001 009", 1).is("text c 1 0 09 030 | claimOf 0 0 2", 30)
                .refused("text w 0000 1 9", -1005).refused("text w 0 1 0009", -1009);
    }

    private static void promise28Parts() {
        Edge.says(28, "One blank ahead of each part (no other blanks)").after(TWO_AND_TWO)
                .is("text w 0 1 9", 1).refused("text w0 1 9", -1001).refused("text w  0 1 9", -1002)
                .refused("text w 01 9", -1006).refused("text w 0  1 9", -1004).refused("text w 0 1  9", -1006)
                .refused("text w 0 1 9 ", -1007).refused("text  w 0 1 9", -1000).refused("text w 0 1 9; d 1", -1008)
                .refused("text d 1 ;d 1", -1003).refused("text  ", -1000);
        Edge parts = Edge.says(28, "\"p\" NAME PURSE; \"t\" WORTH; \"w\" PERSON TOOL WISH; \"l\" PERSON TOOL DAYS: "
                + "LEASED; \"c\" PERSON TOOL URGENCY DAYS: a CLAIM; \"r\" TOOL: RETURNED; \"g\" TOOL PERSON: PASSED; "
                + "\"s\" TOOL TOOL: SWAPPED; \"u\" TOOL n: WEAR; \"k\" TOOL: a LOOK; \"d\" n: DAYS go.").after(TWO_AND_TWO);
        String[] full = {"p c 9", "t 9", "w 0 1 9", "l 0 1 9", "c 0 1 9 9", "r 0", "g 0 1", "s 0 1", "u 0 1", "k 0", "d 1"};
        for (String line : full) {
            int lacks = line.lastIndexOf(' ');
            parts.refused("text " + line + " 1", -1000 - line.length())
                    .refused("text " + line.substring(0, lacks), -1000 - lacks)
                    .refused("text " + line.substring(0, lacks) + ";d 1", -1000 - lacks)
                    .refused("text d 1;" + line.substring(0, lacks), -1004 - lacks)
                    .refused("text " + line.toUpperCase(), -1000);
        }
        parts.is("text p c 9 | personOf 2 1", 9).is("text t 9 | toolOf 2 0", 9).is("text w 0 1 9 | wish 0 1 0", 9)
                .is("text l 0 1 9 | toolOf 1 2", 0).is("text c 0 1 8 9 | claimOf 1 0 1", 8)
                .is("text l 1 0 5;r 0 | toolOf 0 2", Due.NOT).is("text l 0 1 9;g 1 1 | toolOf 1 2", 1)
                .is("text l 0 0 5;l 1 1 5;w 0 1 1;w 1 0 1;s 0 1 | toolOf 0 2", 1)
                .is("text l 0 0 5;u 0 3 | toolOf 0 1", 3).is("text k 0 | toolOf 0 8", 2).is("text d 7 | count 4", 7);
    }

    private static void promise28Form() {
        Edge.says(28, "-1000 less the place of the first byte with which no TEXT goes on")
                .after(TWO_AND_TWO).refused("text x", -1000).refused("text ;", -1000).refused("text ;d 1", -1000)
                .refused("text d 1;;d 1", -1004).refused("text d 1;x", -1004).refused("text d 1,d 1", -1003)
                .refused("text d 1x", -1003).is("feed 0 | script", -1000).is("feed 255 | script", -1000)
                .is("feed 100 | feed 0 | script", -1001).is("feed 100 | feed 32 | feed 0 | script", -1002)
                .is("feed 100 | feed 32 | feed 177 | script", -1002)
                .is("feed 100 | feed 32 | feed 49 | feed 10 | script", -1003)
                .is("feed 228 | feed 32 | feed 49 | script", -1000)
                .refused("text d 1;d 2;d 3;q", -1012).refused("text " + "k".repeat(120), -1001)
                .refused("text " + "k 0;".repeat(29) + "k 0x", -1119);
        Edge.says(28, "(the length, if it ends too early)").after(TWO_AND_TWO)
                .refused("script", -1000).refused("text d", -1001).refused("text d ", -1002).refused("text d 1;", -1004)
                .refused("text p ab", -1004).refused("text p ab ", -1005).refused("text w 0 1", -1005)
                .refused("text " + "k 0;".repeat(29) + "k 0 | script", -1000)
                .refused("text " + "k 0;".repeat(29) + "k", -1117).refused("text " + "k 0;".repeat(30), -1120)
                .refused("text " + "k 0;".repeat(29) + "k  ", -1118).refused("text " + "k 00;".repeat(23) + "d 1;t", -1120);
        Edge.says(28, "FAULT of form").after(TWO_AND_TWO)
                .refused("text d 1;t 5;x", -1008).refused("text d 0;x", -1004).refused("text t 100;d 1;", -1010);
    }

    /** The place of the first byte with which no TEXT goes on, by a pattern; below 0 if it is a TEXT. */
    private static int faultOf(String text) {
        String n = " [0-9]{1,3}";
        String line = "(?:p [a-z]{1,3}" + n + "|c" + n.repeat(4) + "|[wl]" + n.repeat(3) + "|[gsu]" + n.repeat(2)
                + "|[trkd]" + n + ")";
        Pattern whole = Pattern.compile(line + "(?:;" + line + ")*");
        if (whole.matcher(text).matches()) {
            return -1;
        }
        int place = 0;
        for (int length = 1; length <= text.length(); length++) {
            Matcher matcher = whole.matcher(text.substring(0, length));
            if (!matcher.matches() && !matcher.hitEnd()) {
                break;
            }
            place = length;
        }
        return place;
    }

    /** Each byte of some TEXTS is lacking, is another one, or has another one ahead of it. */
    private static void promise28EveryFault() {
        Edge.says(28, "the first byte with which no TEXT goes on (the length, if it ends too early)");
        for (String text : LINES) {
            Due.is("\"" + text + "\" has a form", faultOf(text), -1);
            for (int at = 0; at <= text.length(); at++) {
                formIsAsDue(text.substring(0, at));
                for (char sign = 0; sign < 256; sign++) {
                    formIsAsDue(text.substring(0, at) + sign + text.substring(at));
                    if (at < text.length()) {
                        formIsAsDue(text.substring(0, at) + sign + text.substring(at + 1));
                    }
                }
                if (at < text.length()) {
                    formIsAsDue(text.substring(0, at) + text.substring(at + 1));
                }
            }
        }
    }

    private static void formIsAsDue(String text) {
        int fault = faultOf(text);
        int answer = Due.script(new LeaseOffice(), text);
        if (fault >= 0) {
            Due.is("\"" + text + "\"", answer, -1000 - fault);
        } else {
            Due.is("\"" + text + "\" has a form, so " + answer, answer > 0 || answer <= -2000 ? 1 : 0, 1);
        }
    }

    private static void promise28Refused() {
        Edge.says(28, "one that its call would refuse: -2000 less its number (from 0)").after(TWO_AND_TWO)
                .refused("text d 0", -2000).refused("text d 1;d 0", -2001).refused("text d 1;d 0;d 0", -2001)
                .refused("text " + "d 1;".repeat(29) + "d 0", -2029).refused("text " + "d 1;".repeat(28) + "d 0;d 1", -2028)
                .refused("text p c 5;p c 5", -2001).refused("text t 5;l 0 2 5;l 1 2 5", -2002)
                .refused("text l 0 0 5;d 6;g 0 1", -2002).refused("text l 0 0 5;c 0 0 1 1", -2001)
                .refused("text l 0 0 5;l 1 1 5;s 0 1", -2002).refused("text r 0", -2000).refused("text u 0 1", -2000)
                .refused("text k 2", -2000).refused("text g 0 0", -2000).refused("text w 0 0 10", -2000)
                .refused("text l 0 0 5;u 0 9;r 0;l 0 0 5", -2003).is("text l 0 0 5;u 0 8;r 0;l 0 0 5", 4);
        String ten = Edge.times(10, "person 11# 10") + " | " + Edge.times(9, "tool 5");
        Edge.says(28, "one that its call would refuse").after(ten)
                .is("text p a 1;p b 2;t 5", 3).refused("text p a 1;p b 2;p c 3", -2002).refused("text t 5;t 5", -2001)
                .is("text c 0 0 1 1;c 1 0 1 1;c 2 0 1 1;c 3 0 1 1;c 4 0 1 1;c 5 0 1 1;"
                        + "c 6 0 1 1;c 7 0 1 1", 8)
                .refused("text c 0 0 1 1;c 1 0 1 1;c 2 0 1 1;c 3 0 1 1;c 4 0 1 1;c 5 0 1 1;c 6 0 1 1;c 7 0 1 1;c 8 0 1 1",
                        -2008);
    }

    private static void promise28AsItWas() {
        String all = "p c 99;t 9;w 0 1 3;l 1 1 4;c 0 1 5 5;u 0 5;k 0;g 1 0;r 0;d 9";
        Edge asItWas = Edge.says(28, "and all is as it was ahead of the TEXT")
                .after(TWO_AND_TWO + " | lease 0 0 5 | claim 1 0 203 | use 0 2 | wish 0 1 7 | image | days 1 | tool 50"
                        + " | lease 1 2 3 | look 0 | !lease 0 0 5 | row 0 3 | put 0 1 5 | hold 1 1 1 | hold 2 2 2");
        asItWas.is("text " + all, 10).refused("text " + all + ";d 0", -2010).refused("text " + all + ";l 0 0 5", -2010)
                .refused("text " + all + ";s 0 1", -2010).refused("text " + all + ";g 1 1", -2010);
        String[] lines = {"p c 99", "t 9", "w 0 1 3", "l 1 1 4", "c 0 1 5 5", "u 0 5", "k 0", "g 2 0", "r 0", "d 99"};
        for (String line : lines) {
            asItWas.is("text " + line, 1).refused("text " + line + ";d 0", -2001)
                    .refused("text " + line + ";" + line + ";d 0;" + line, line.matches("[plcg].*") ? -2001 : -2002);
        }
        Edge.says(28, "all is as it was ahead of the TEXT").after(TWO_AND_TWO)
                .is("!text p c 5;d 0 | person 3 7", 2).is("!text t 5;d 0 | tool 7", 2)
                .is("!text t 5;w 0 2 5;d 0 | tool 7 | wish 0 2 1", 0)
                .is("!text l 0 0 5;d 0 | lease 1 0 5", 5).is("!text d 5;d 0 | days 1", 1)
                .is("!text l 0 0 5;u 0 9;r 0;d 0 | lease 1 0 5", 5);
    }

    private static void promise28Tape() {
        Edge.says(28, "THE TAPE is empty then.").after(TWO_AND_TWO)
                .is("text d 1 | count 7", 0).is("!text d 0 | count 7", 0).is("!text d | count 7", 0)
                .is("!text x | count 7", 0).is("!script | count 7", 0).is("text d 1 | text d 1 | count 4", 2)
                .is("!text d 0 | text d 1", 1).is("!text d | text d 1", 1).is("!text d 1; | text d 1", 1)
                .refused("text d 1 | script", -1000).is(bytes(120) + " | !script | feed 9", 1);
        Edge.says(28, "-1000, -2000 as told").after(TWO_AND_TWO + " | type d 1;d")
                .is("text  2", 2).is("text  2 | count 4", 3).is("!text ; | count 4", 0);
    }

    private static void promise29() {
        Edge.says(29, "AN IMAGE is kept: DAY.").is("image", 0).is("days 99 | image", 99)
                .is("image | days 5 | back", 0).is("days 3 | image | days 5 | back", 3)
                .is("image | days 3 | image | days 5 | back", 3).is("image | days 3 | back | days 9 | back", 0)
                .is("days 3 | image | image | back", 3).is("days 3 | image | back | count 4", 3);
        Edge.says(29, "AN IMAGE keeps all of 1.").after(TWO_AND_TWO + " | lease 0 0 5 | pass 0 1 | use 0 9 | look 0 | "
                + "claim 0 0 305 | wish 1 1 4 | days 6 | !pass 0 0 | image")
                .sameBehind("", "returned 0 | back").sameBehind("", "person 3 3 | back")
                .sameBehind("", "tool 3 | back").sameBehind("", "fund 0 9 | fund 1 9 | back")
                .sameBehind("", "wish 1 1 5 | wish 0 0 3 | back").sameBehind("", "days 9 | back")
                .sameBehind("", "waive 0 0 | back").sameBehind("", "claim 0 1 101 | back")
                .sameBehind("", "lease 0 1 5 | !swap 0 1 | back").sameBehind("", "look 0 | look 1 | back")
                .sameBehind("", "!lease 0 0 5 | back").sameBehind("", "text p c 5;t 3;w 2 2 9;l 0 2 5;u 2 5;k 2 | back")
                .sameBehind("", "text t 3;r 0;c 1 2 5 5 | !text d 0 | back")
                .sameBehind("", "person 3 300 | lease 2 1 5 | returned 1 | "
                        + Edge.times(8, "lease 2 1 5 | use 1 1 | returned 1") + " | back")
                .sameBehind("", "image | back").sameBehind("", "back");
        // Person 0 owes 20 and was late once; one LINK of the TOOL has ended, one is open.
        Edge.says(29, "AN IMAGE keeps all of 1.").after("person 1 20 | person 2 99 | tool 20 | lease 0 0 5 | use 0 9"
                + " | look 0 | days 6 | returned 0 | tool 30 | lease 1 1 5 | use 1 2 | look 1 | fund 0 23 | image")
                .is("personOf 0 4", 0).is("personOf 1 4", 0).is("personOf 0 3", 1)
                .sameBehind("", "use 1 7 | look 1 | back").sameBehind("", "fund 1 9 | fund 0 9 | back")
                .sameBehind("", "fund 0 30 | pass 1 0 | use 1 1 | pass 1 1 | back")
                .sameBehind("", "fund 0 30 | pass 1 0 | pass 1 1 | pass 1 0 | pass 1 1 | look 1 | back")
                .is("fund 0 30 | pass 1 0 | pass 1 1 | back | use 1 1 | look 1", 1)
                .is("fund 0 30 | pass 1 0 | pass 1 1 | back | told 1 1", 2)
                .is("returned 1 | " + Edge.times(9, "lease 1 1 5 | returned 1") + " | back | told 1 1", 2)
                .is("returned 1 | " + Edge.times(9, "lease 1 1 5 | returned 1") + " | look 1 | back | fund 0 30 | pass 1 0"
                        + " | told 1 1", 3);
        Edge.says(29, "AN IMAGE keeps all of 1.").after("person 1 20 | tool 20 | lease 0 0 5 | use 0 4 | look 0 | image")
                .is("personOf 0 4", 8).sameBehind("", "fund 0 3 | back").sameBehind("", "fund 0 9 | back")
                .sameBehind("", "use 0 5 | look 0 | back").is("use 0 5 | look 0 | back | personOf 0 4", 8)
                .is("fund 0 9 | back | count 5", 0).refused("text u 0 5;k 0;d 0", -2002)
                .is("!text u 0 5;k 0;d 0 | personOf 0 4", 8).is("text u 0 5;k 0;d 1 | personOf 0 4", 19);
        // The one LINK that there ever was had ended by the LOOK.
        Edge.says(29, "AN IMAGE keeps all of 1.").after(TWO_AND_TWO + " | lease 0 0 5 | returned 0 | look 0 | image")
                .is("told 0 1", 0).is("lease 1 0 5 | told 0 1", 2).is("lease 1 0 5 | back | told 0 1", 0)
                .sameBehind("", "lease 1 0 5 | back").is("lease 1 0 5 | back | lease 1 0 5 | told 0 1", 2)
                .is("!text l 1 0 5;d 0 | told 0 1", 0).refused("text l 1 0 5;d 0", -2001);
        Edge.says(29, "an IMAGE keeps it, too").after(TWO_AND_TWO + " | lease 0 0 5 | !lease 1 0 5 | image")
                .is("!swap 0 9 | back | why 0", 1).is("lease 1 1 5 | !swap 0 1 | why 0", 4)
                .is("lease 1 1 5 | !swap 0 1 | back | why 0", 1);
    }

    private static void promise30() {
        Edge.says(30, "It is laid back").after(TWO_AND_TWO + " | days 2 | image | days 5")
                .is("back", 2).is("back | days 1 | back", 2).is("back | lease 0 0 5", 7).is("back | image | days 1 | back", 2)
                .is("person 3 3 | back | person 4 4", 2).is("tool 3 | back | tool 4", 2)
                .is("tool 3 | wish 0 2 8 | back | tool 4 | wish 0 2 1", 0)
                .is("person 3 3 | wish 2 1 8 | back | person 4 4 | wish 2 1 1", 0)
                .is("person 3 30 | claim 2 0 101 | lease 2 1 5 | back | toolOf 1 2", Due.NOT)
                .is("person 3 30 | tool 3 | lease 2 2 5 | use 2 5 | returned 2 | back | tool 4 | toolOf 2 8", 1)
                .is("person 3 30 | tool 3 | lease 2 2 5 | use 2 5 | returned 2 | back | tool 4 | toolOf 2 7", 0)
                .is("person 3 30 | tool 3 | lease 2 2 5 | use 2 5 | back | tool 4 | toolOf 2 1", 0)
                .is("person 3 30 | tool 3 | lease 2 2 5 | back | tool 4 | toolOf 2 2", Due.NOT);
        Edge.says(30, "It is laid back").after("image | person 2 50 | tool 20 | wish 0 0 7 | person 3 50 | claim 1 0 105"
                + " | lease 0 0 1 | use 0 5 | pass 0 1 | pass 0 0 | fund 1 1 | days 5 | look 0 | use 0 3 | returned 0")
                .is("personOf 0 3", 1).is("back | person 5 20", 0).is("back | person 5 20 | personOf 0 3", 0)
                .is("back | person 5 20 | personOf 0 2", 50).is("back | person 5 20 | tool 20 | wish 0 0 1", 0)
                .is("back | tool 30 | toolOf 0 6", 0).is("back | tool 30 | toolOf 0 7", 0)
                .is("back | tool 30 | toolOf 0 8", 1).is("back | tool 30 | seen 0 0 1", 0)
                .is("back | tool 30 | told 0 1", 0)
                .is("back | tool 20 | person 5 20 | lease 0 0 5 | told 0 1", 1)
                .is("back | tool 20 | person 5 20 | lease 0 0 5 | use 0 9 | share 0 0", 20)
                .is("back | tool 20 | person 5 20 | person 6 20 | lease 0 0 5 | pass 0 1 | told 0 1", 3)
                .is("back | tool 20 | person 5 20 | person 6 20 | lease 0 0 5 | look 0 | pass 0 1 | told 0 1", 3);
        Edge.says(30, "It is laid back").after("image | person 1 20 | tool 20 | lease 0 0 5 | use 0 9 | look 0")
                .is("personOf 0 4", 20).is("back | person 2 5 | personOf 0 4", 0).is("back | count 6", 0)
                .is("back | person 2 5 | count 6", 0);
        Edge.says(30, "It is laid back").after("image | person 1 20 | tool 20 | claim 0 0 101")
                .is("back | tool 30 | toolOf 0 6", 0).is("back | person 2 5 | tool 30 | claim 0 0 205", 0)
                .is("back | person 2 5 | personOf 0 7", 0).is("back | count 3", 0);
        Edge.says(30, "STATE: there is none.").refused("back", Due.STATE).refused("days 5 | back", Due.STATE)
                .refused(TWO_AND_TWO + " | lease 0 0 5 | days 3 | back", Due.STATE).is("image | back", 0)
                .is("!back | image | days 1 | back", 0).is("image | back | back | back", 0);
    }

    private static void promise30Holders() {
        Edge.says(30, "HOLDERS that hold a PERSON, a TOOL of a number that there isn't then hold nothing; "
                + "ROWS, THE TAPE stay").after(TWO_AND_TWO + " | image | person 3 3 | tool 3 | hold 0 1 1 | hold 1 1 2 | "
                + "hold 2 2 1 | hold 3 2 2 | row 4 3 | put 4 2 77 | type d 1;d")
                .is("count 8", 5).is("back | count 8", 3).is("back | tells 0 0", 1).refused("back | tells 1 0", Due.EMPTY)
                .is("back | tells 2 0", 1).refused("back | tells 3 0", Due.EMPTY).is("back | put 4 2 1", 77)
                .is("back | count 7", 5).is("back | text  8 | count 4", 9)
                .refused("back | person 3 3 | tells 1 0", Due.EMPTY).refused("back | tool 3 | tells 3 0", Due.EMPTY)
                .is("image | back | tells 1 0", 2).is("image | back | tells 3 0", 2).is("row 1 2 | back | put 1 1 5", 0);
        Edge.says(30, "a number that there isn't then").after("image | person 1 5 | tool 5 | hold 0 1 0 | hold 5 2 0")
                .is("tells 0 0", 0).refused("back | tells 0 0", Due.EMPTY).refused("back | tells 5 0", Due.EMPTY)
                .is("back | count 8", 0);
    }

    private static void promise31() {
        Edge.says(31, "A HOLDER holds a PERSON (what 1), a TOOL (2), nothing (0; number does not matter): 1. BAD.")
                .after(TWO_AND_TWO + " | tool 40")
                .is("hold 0 1 1", 1).is("hold 5 2 2", 1).is("hold 0 0 0", 1).is("hold 0 0 -1", 1)
                .is("hold 0 0 2147483647", 1).is("hold 0 0 -2147483648", 1)
                .refusedFor("hold # 1 1", Due.BAD, -1, 6, MIN, MAX).refusedFor("hold # 0 0", Due.BAD, -1, 6, MIN, MAX)
                .refusedFor("hold 0 # 0", Due.BAD, -1, 3, 4, MIN, MAX)
                .refusedFor("hold 0 1 #", Due.BAD, -1, 2, 12, MIN, MAX)
                .refusedFor("hold 0 2 #", Due.BAD, -1, 3, 10, MIN, MAX)
                .refused("hold 0 1 1 | hold 0 1 2", Due.BAD).refused("row 0 2 | hold 0 3 0", Due.BAD)
                .is("hold 0 1 1 | hold 0 2 2 | tells 0 2", 40).refused("hold 0 1 1 | hold 0 0 9 | tells 0 0", Due.EMPTY)
                .is("person 3 5 | hold 0 1 2", 1);
        Edge.says(31, "HOLDERS 0 .. 5 hold nothing (at first), a PERSON, a TOOL, or a ROW").after(TWO_AND_TWO)
                .is(Edge.times(6, "hold # 1 0") + " | count 8", 6).is("hold 5 1 0 | tells 5 0", 0)
                .refused("hold 5 1 0 | tells 4 0", Due.EMPTY).is("row 0 2 | hold 0 1 1 | tells 0 0", 1);
    }

    private static void promise32() {
        Edge.says(32, "A HOLDER holds a new ROW: 1. BAD (HOLDER, n above 60); -14.")
                .is("row 0 0", 1).is("row 0 60", 1).is("row 5 1", 1).refusedFor("row 0 #", Due.BAD, 61, 62, MAX)
                .refusedFor("row 0 #", Due.SIZE, -1, -60, MIN).refusedFor("row # 5", Due.BAD, -1, 6, MIN, MAX)
                .refused("row 6 -1", Due.BAD).refused("row -1 61", Due.BAD).refused("row 6 61", Due.BAD)
                .refused("row 0 5 | put 0 4 9 | row 0 61", Due.BAD).refused("row 0 5 | put 0 4 9 | row 0 -1", Due.SIZE)
                .is("row 0 5 | put 0 4 9 | !row 0 61 | put 0 4 1", 9);
        Edge.says(32, "a ROW of n (0 .. 60) ints, 0 at first.").is("row 0 60 | put 0 59 1", 0)
                .is("row 0 1 | put 0 0 1", 0).refused("row 0 0 | put 0 0 1", VOID)
                .refused("row 0 60 | put 0 60 1", VOID).is("row 0 60 | put 0 59 7 | row 0 60 | put 0 59 1", 0)
                .is("row 0 60 | put 0 59 7 | row 0 5 | row 0 60 | put 0 59 1", 0)
                .is("row 0 3 | put 0 2 7 | hold 0 0 0 | row 0 3 | put 0 2 1", 0).is("row 0 0 | count 8", 1)
                .is("row 0 3 | put 0 2 7 | image | row 0 3 | back | put 0 2 1", 0);
    }

    private static void promise33() {
        Edge.says(33, "VOID: BAD (HOLDER), nothing, another sort, no such place.")
                .after(TWO_AND_TWO + " | row 0 3 | row 5 60 | hold 1 1 1 | hold 2 2 1")
                .is("put 0 0 5", 0).is("put 0 2 5", 0).refusedFor("put 0 # 5", VOID, -1, 3, 59, 60, MIN, MAX)
                .is("put 5 59 5", 0).refused("put 5 60 5", VOID).refusedFor("put # 0 5", VOID, -1, 6, MIN, MAX)
                .refused("put 3 0 5", VOID).refused("put 1 0 5", VOID).refused("put 2 0 5", VOID)
                .refused("hold 0 0 0 | put 0 0 5", VOID).refused("hold 0 1 0 | put 0 0 5", VOID)
                .refused("row 0 0 | put 0 0 5", VOID).refused("row 0 2 | put 0 2 5", VOID).is("row 0 2 | put 0 1 5", 0);
    }

    private static void promise33Values() {
        Edge values = Edge.says(33, "Item i of a ROW becomes v: what it was.").after("row 0 3 | row 1 3");
        int[] any = {0, 1, -1, MIN, MAX, Due.BAD, Due.NOT, VOID};
        for (int v : any) {
            values.is("put 0 1 " + v, 0).is("put 0 2 7 | put 0 2 8 | put 0 0 " + v, 0)
                    .is("put 0 1 9 | put 0 1 " + v, 9);
            Calls calls = new Calls();
            calls.make("promise 33", "row 0 3");
            Due.is("promise 33: at first", calls.ask("put", 0, 1, v), 0);
            Due.is("promise 33: what it was", calls.ask("put", 0, 1, 5), v);
            Due.is("promise 33: then", calls.ask("put", 0, 1, 6), 5);
        }
        values.is("put 0 1 5 | put 1 1 6", 0).is("put 0 1 5 | put 0 0 6", 0).is("put 0 1 5 | put 0 2 6", 0);
    }

    private static void promise34() {
        Edge.says(34, "What is in a HOLDER, taken for a sort (as), tells. BAD; -11; -12.")
                .after(TWO_AND_TWO + " | hold 0 1 1 | hold 1 2 0 | row 2 1")
                .is("tells 0 0", 1).refusedFor("tells 0 #", Due.BAD, -1, 4, MIN, MAX)
                .refusedFor("tells # 0", Due.BAD, -1, 6, MIN, MAX).refused("tells 5 4", Due.BAD)
                .refusedFor("tells 3 #", Due.EMPTY, 0, 1, 2, 3).refused("tells 5 0", Due.EMPTY)
                .refused("tells 3 -1", Due.BAD).refused("hold 0 0 0 | tells 0 0", Due.EMPTY)
                .refusedFor("tells 2 #", Due.SORT, 0, 1, 2, 3).refusedFor("tells 0 #", Due.SORT, 2, 3)
                .refusedFor("tells 1 #", Due.SORT, 1, 3).refused("row 2 0 | tells 2 0", Due.SORT);
    }

    private static void promise34Sorts() {
        Edge.says(34, "0 any but a ROW: its number; 1 a PERSON: TRUST; 2 a TOOL: WORTH; 3 a LEASED one: its HOLDER.")
                .after(TWO_AND_TWO + " | hold 0 1 1 | hold 1 2 1 | row 2 1 | hold 3 1 0 | hold 4 2 0")
                .is("tells 0 0", 1).is("tells 3 0", 0).is("tells 1 0", 1).is("tells 4 0", 0).is("tells 0 1", 50)
                .is("tells 1 2", 30).is("tells 4 2", 20).is("lease 1 1 5 | tells 1 3", 1).is("lease 0 1 5 | tells 1 3", 0)
                .is("lease 0 1 5 | pass 1 1 | tells 1 3", 1).is("lease 1 1 5 | use 1 9 | look 1 | tells 0 1", 41)
                .is("lease 1 1 5 | tells 1 2", 30).is("lease 1 1 5 | tells 1 0", 1);
        Edge.says(34, "a TOOL AT THE OFFICE taken for 3 is -12").after(TWO_AND_TWO + " | hold 1 2 1")
                .refused("tells 1 3", Due.SORT).is("lease 0 1 5 | tells 1 3", 0)
                .refused("lease 0 1 5 | returned 1 | tells 1 3", Due.SORT).refused("lease 0 0 5 | tells 1 3", Due.SORT);
    }

    private static void promise35() {
        Edge.says(35, "0 PERSONS, 1 TOOLS, 2 LEASED ones, 3 CLAIMS, 4 DAY, 5 THE TILL, 6 DEBTS together, "
                + "7 bytes on THE TAPE, 8 HOLDERS that hold something. BAD.")
                .refusedFor("count #", 0, 0, 1, 2, 3, 4, 5, 6, 7, 8).refusedFor("count #", Due.BAD, -1, 9, MIN, MAX);
    }

    private static void promise35Counts() {
        Edge count = Edge.says(35, "How many").after(TWO_AND_TWO);
        count.is("count 0", 2).is("person 3 3 | count 0", 3).is("!person 1 3 | count 0", 2).is("count 1", 2)
                .is("tool 3 | count 1", 3).is("!tool 0 | count 1", 2).is("lease 0 0 5 | count 2", 1)
                .is("lease 0 0 5 | lease 0 1 5 | count 2", 2).is("lease 0 0 5 | returned 0 | count 2", 0)
                .is("lease 0 0 5 | pass 0 1 | count 2", 1).is("!lease 0 0 0 | count 2", 0)
                .is("claim 0 0 101 | count 3", 1).is("claim 0 0 101 | claim 0 1 101 | claim 1 0 101 | count 3", 3)
                .is("claim 0 0 101 | !claim 0 0 101 | count 3", 1).is("claim 0 0 101 | waive 0 0 | count 3", 0)
                .is("claim 0 0 101 | lease 1 0 5 | returned 0 | count 3", 0)
                .is("days 99 | !days 0 | count 4", 99).is("lease 0 0 5 | days 6 | returned 0 | count 5", 3)
                .is("lease 0 0 5 | use 0 9 | look 0 | count 5", 20).is("type abc | count 7", 3)
                .is("!feed 256 | count 7", 0).is("hold 0 1 0 | row 5 0 | hold 3 2 0 | count 8", 3)
                .is("hold 0 1 0 | hold 0 0 0 | count 8", 0).is("hold 0 1 0 | row 0 3 | count 8", 1)
                .is("!hold 0 1 2 | count 8", 0);
        Edge.says(35, "6 DEBTS together").after("person 1 20 | person 2 30 | tool 20 | tool 30 | lease 0 0 5 | lease 1 1 5")
                .is("count 6", 0).is("use 0 9 | count 6", 0).is("use 0 9 | look 0 | count 6", 20)
                .is("use 0 9 | look 0 | use 1 9 | look 1 | count 6", 50)
                .is("use 0 9 | look 0 | use 1 9 | look 1 | fund 0 21 | fund 1 29 | count 6", 1)
                .is("use 0 9 | look 0 | fund 0 21 | count 5", 20);
    }
}
