/** The edges that the document names for promises 15 to 18, a sentence a script. */
public final class StopEdgesTest {
    private static final String LONGEST = longest();

    public static void main(String[] args) {
        stoppedRefused();
        stoppedNone();
        stoppedByAsManyAsThereMayBe();
        friendsRefused();
        friendsNone();
        changesRefused();
        changesNone();
        changesEmptyAndFull();
        changesByAsManyAsThereMayBe();
        shiftsRefused();
        shiftsEmptyAndFull();
        Check.end();
    }

    private static String longest() {
        StringBuilder lines = new StringBuilder("windows 10\n");
        for (int window = 0; window < 10; window++) {
            lines.append("gap ").append(window).append(" 9\n");
        }
        return lines + "set 0 9\nplay +++++++++\n";
    }

    private static void stoppedRefused() {
        Script.run("15: UNKNOWN, also where v or what is OUTSIDE", """
            stopped -1 4 0 : UNKNOWN
            stopped 6 4 0 : UNKNOWN
            stopped 32 4 0 : UNKNOWN
            stopped MIN 4 0 : UNKNOWN
            stopped MAX 4 0 : UNKNOWN
            stopped -1 0 0 : UNKNOWN
            stopped 6 201 0 : UNKNOWN
            stopped 6 4 2 : UNKNOWN
            stopped -1 4 -1 : UNKNOWN
            windows 2
            stopped 1 6 0 : 0
            stopped 2 6 0 : UNKNOWN
            windows 10
            stopped 9 22 0 : 0
            stopped 10 22 0 : UNKNOWN
            """);
        Script.run("15: v 1 to 200", """
            play b
            stopped 0 0 0 : OUTSIDE
            stopped 0 1 0 : NONE
            stopped 0 1 1 : NONE
            stopped 0 200 0 : NONE
            stopped 0 200 1 : NONE
            stopped 0 201 0 : OUTSIDE
            stopped 0 201 1 : OUTSIDE
            stopped 0 -1 0 : OUTSIDE
            stopped 5 270 0 : OUTSIDE
            stopped 5 MIN 1 : OUTSIDE
            stopped 5 MAX 1 : OUTSIDE
            """);
        Script.run("15: what 0 to 1", """
            stopped 0 14 -1 : OUTSIDE
            stopped 0 14 0 : 0
            stopped 0 14 1 : 0
            stopped 0 14 2 : OUTSIDE
            stopped 0 1 2 : OUTSIDE
            stopped 0 14 MIN : OUTSIDE
            stopped 0 14 MAX : OUTSIDE
            """);
    }

    private static void stoppedNone() {
        Script.run("15: NONE where no FINGERS do, one foot beside those that some do", """
            stopped 0 12 0 : 1
            stopped 0 13 0 : NONE
            stopped 0 13 1 : NONE
            stopped 0 14 0 : 0
            stopped 0 15 0 : NONE
            stopped 0 15 1 : NONE
            stopped 5 2 1 : 32
            stopped 5 1 1 : NONE
            stopped 5 3 1 : NONE
            """);
        Script.run("15: the longest of all, by no FINGERS", LONGEST + """
            stopped 9 107 0 : NONE
            stopped 9 108 0 : 0
            stopped 9 108 1 : 0
            stopped 9 109 0 : NONE
            stopped 9 18 0 : 1
            stopped 9 18 1 : 512
            """);
        Script.run("15: the shortest", """
            windows 2
            gap 0 1
            gap 1 1
            set 0 1
            stopped 1 1 0 : 1
            stopped 1 1 1 : 2
            stopped 0 1 0 : NONE
            stopped 0 2 1 : 1
            stopped 0 3 1 : 0
            """);
    }

    private static void stoppedByAsManyAsThereMayBe() {
        Script.run("15: two FINGERS of two or three WINDOWS are more than there may be, of four they are not", """
            windows 2
            stopped 0 2 0 : NONE
            stopped 0 2 1 : NONE
            stopped 0 4 0 : 1
            stopped 0 4 1 : 1
            windows 3
            stopped 0 2 0 : NONE
            stopped 1 2 1 : NONE
            stopped 1 4 1 : 2
            windows 4
            stopped 0 2 0 : 2
            stopped 0 2 1 : 3
            stopped 2 2 1 : 12
            """);
        Script.run("15: FINGERS that there are count for nothing, and the set is the least of as few", """
            play cdef
            stopped 0 14 0 : 0
            stopped 0 14 1 : 0
            stopped 3 4 0 : 2
            stopped 3 4 1 : 20
            stopped 2 8 0 : 1
            stopped 2 8 1 : 4
            stopped 5 2 0 : 1
            stopped 5 2 1 : 32
            told 6 : 60
            """);
    }

    private static void friendsRefused() {
        Script.run("16: UNKNOWN of either and of both in one, also where something is OUTSIDE", """
            friends -1 4 1 4 0 : UNKNOWN
            friends 6 4 1 4 0 : UNKNOWN
            friends 1 4 -1 4 0 : UNKNOWN
            friends 1 4 6 4 0 : UNKNOWN
            friends 1 4 1 4 0 : UNKNOWN
            friends 0 14 0 14 1 : UNKNOWN
            friends 6 4 6 4 0 : UNKNOWN
            friends MIN 4 1 4 0 : UNKNOWN
            friends 1 4 MAX 4 0 : UNKNOWN
            friends 1 0 1 4 0 : UNKNOWN
            friends 1 4 6 201 0 : UNKNOWN
            friends -1 4 1 4 2 : UNKNOWN
            """);
        Script.run("16: v and w as of stopped", """
            friends 0 0 1 14 0 : OUTSIDE
            friends 0 1 1 14 0 : NONE
            friends 0 200 1 14 0 : NONE
            friends 0 201 1 14 0 : OUTSIDE
            friends 0 14 1 0 1 : OUTSIDE
            friends 0 14 1 1 1 : NONE
            friends 0 14 1 200 1 : NONE
            friends 0 14 1 201 1 : OUTSIDE
            friends 0 MIN 1 14 0 : OUTSIDE
            friends 0 MAX 1 14 0 : OUTSIDE
            friends 0 14 1 MIN 0 : OUTSIDE
            friends 0 14 1 MAX 0 : OUTSIDE
            """);
        Script.run("16: what 0 to 1", """
            friends 0 14 5 14 -1 : OUTSIDE
            friends 0 14 5 14 0 : 0
            friends 0 14 5 14 1 : 0
            friends 0 14 5 14 2 : OUTSIDE
            friends 0 14 5 14 MIN : OUTSIDE
            friends 0 14 5 14 MAX : OUTSIDE
            """);
    }

    private static void friendsNone() {
        Script.run("16: each can be, both can not", """
            stopped 0 14 0 : 0
            stopped 5 2 0 : 1
            friends 0 14 5 2 0 : NONE
            friends 0 14 5 2 1 : NONE
            friends 5 2 0 14 0 : NONE
            friends 0 12 5 2 0 : 1
            friends 0 12 5 2 1 : 32
            """);
        Script.run("16: four FINGERS of five WINDOWS are more than there may be, of six they are not", """
            windows 5
            friends 0 2 2 2 0 : NONE
            friends 0 2 2 2 1 : NONE
            windows 6
            friends 0 2 2 2 0 : 4
            friends 0 2 2 2 1 : 15
            friends 2 2 4 2 1 : 60
            """);
        Script.run("16: two of two WINDOWS are more, one is not", """
            windows 2
            friends 0 2 1 2 0 : NONE
            friends 0 4 1 2 0 : 1
            friends 0 4 1 2 1 : 2
            friends 0 4 1 4 1 : 1
            friends 0 6 1 6 1 : 0
            """);
        Script.run("16: the longest", LONGEST + """
            friends 0 108 9 108 0 : 0
            friends 0 109 9 109 0 : NONE
            friends 0 90 9 18 0 : 1
            friends 0 90 9 18 1 : 512
            """);
    }

    private static void changesRefused() {
        Script.run("17: UNKNOWN, then OUTSIDE, then NO", """
            changes -1 0 : UNKNOWN
            changes 6 0 : UNKNOWN
            changes MIN 0 : UNKNOWN
            changes MAX 1 : UNKNOWN
            changes 6 2 : UNKNOWN
            changes -1 -1 : UNKNOWN
            changes 0 -1 : OUTSIDE
            changes 0 2 : OUTSIDE
            changes 5 MIN : OUTSIDE
            changes 5 MAX : OUTSIDE
            changes 0 0 : NO
            changes 5 1 : NO
            """);
        Script.run("17: UNKNOWN and OUTSIDE where there is no FAULT", """
            tell 14
            changes -1 0 : UNKNOWN
            changes 0 0 : 0
            changes 5 1 : 0
            changes 6 0 : UNKNOWN
            changes 6 2 : UNKNOWN
            changes 0 -1 : OUTSIDE
            changes 0 2 : OUTSIDE
            """);
        Script.run("17: NO by each FAULT of a TUNE", """
            play b
            changes 0 0 : NO
            tell 1
            changes 0 0 : NO
            tell 141
            changes 0 1 : NO
            tell 00
            changes 0 0 : NO
            tell 21
            changes 0 0 : NO
            tell 30
            changes 0 1 : NO
            tell a.
            changes 0 0 : NO
            tell 14:4
            changes 0 0 : NO
            wipe
            times 59 say '1'
            changes 0 0 : NO
            tell 14
            changes 0 0 : 1
            """);
    }

    private static void changesNone() {
        Script.run("17: NONE, whichever LENGTH can not be", """
            tell 13
            changes 0 0 : NONE
            changes 0 1 : NONE
            tell 1314
            changes 0 0 : NONE
            tell 1413
            changes 0 0 : NONE
            changes 0 1 : NONE
            tell 140114
            changes 0 0 : NONE
            tell 20
            changes 0 0 : NONE
            tell 16
            changes 0 1 : NONE
            """);
        Script.run("17: LENGTHS 01 and 20", """
            windows 2
            gap 0 9
            gap 1 9
            tell 20
            changes 0 0 : 0
            changes 0 1 : 0
            tell 2011
            changes 0 0 : 1
            changes 0 1 : 1
            set 0 1
            tell 20
            changes 0 0 : NONE
            tell 01
            changes 1 0 : 1
            changes 1 1 : 2
            changes 0 0 : NONE
            """);
    }

    private static void changesEmptyAndFull() {
        Script.run("17: none are needed, none are made", """
            play ad
            tell 06
            changes 0 0 : 0
            changes 0 1 : 9
            tell 060606
            changes 5 0 : 0
            changes 5 1 : 9
            told 6 : 9
            told 0 : 6
            """);
        Script.run("17: thirty LENGTHS", """
            fill 0414
            changes 0 0 : 30
            changes 0 1 : 0
            changes 5 0 : 30
            changes 5 1 : 0
            wipe
            fill 1404
            changes 0 0 : 29
            changes 0 1 : 2
            wipe
            fill 14
            changes 3 0 : 0
            changes 3 1 : 0
            told 0 : 60
            """);
    }

    private static void changesByAsManyAsThereMayBe() {
        Script.run("17: one is lifted where one more may not be", """
            windows 2
            play a
            tell 02
            changes 1 0 : 2
            changes 1 1 : 2
            tell 04
            changes 1 0 : 0
            changes 1 1 : 1
            tell 0402
            changes 1 0 : 2
            windows 3
            play a
            tell 02
            changes 2 0 : 2
            changes 2 1 : 4
            changes 0 0 : NONE
            """);
        Script.run("17: FINGERS then, least as bits of as few", """
            play abcd
            tell 02
            changes 5 0 : 2
            changes 5 1 : 39
            tell 04
            changes 5 0 : 2
            changes 5 1 : 23
            """);
    }

    private static void shiftsRefused() {
        Script.run("18: UNKNOWN of either and of both in one, also where it is NO", """
            shifts -1 0 : UNKNOWN
            shifts 6 0 : UNKNOWN
            shifts 0 -1 : UNKNOWN
            shifts 0 6 : UNKNOWN
            shifts 3 3 : UNKNOWN
            shifts 6 6 : UNKNOWN
            shifts MIN 0 : UNKNOWN
            shifts 0 MAX : UNKNOWN
            shifts 0 1 : NO
            tell 14
            shifts -1 0 : UNKNOWN
            shifts 0 6 : UNKNOWN
            shifts 5 5 : UNKNOWN
            shifts 0 5 : 1
            shifts 5 0 : 1
            """);
        Script.run("18: NO by each FAULT of a TUNE", """
            shifts 0 1 : NO
            tell 1
            shifts 0 1 : NO
            tell 141
            shifts 0 1 : NO
            tell 00
            shifts 0 1 : NO
            tell 21
            shifts 0 1 : NO
            tell 30
            shifts 0 1 : NO
            tell 14ab
            shifts 0 1 : NO
            shifts 0 0 : UNKNOWN
            """);
    }

    private static void shiftsEmptyAndFull() {
        Script.run("18: k 0 to as many less 1: one LENGTH, two, thirty", """
            tell 14
            shifts 0 5 : 1
            tell 1414
            shifts 0 5 : 3
            fill 14
            shifts 0 5 : 1073741823
            """);
        Script.run("18: only the last k of thirty", """
            tell 1010
            shifts 0 5 : 0
            tell 101004
            shifts 0 5 : 4
            tell 1010101010101010101010101010101010101010101010101010101004
            shifts 0 5 : 268435456
            tell 101010101010101010101010101010101010101010101010101010101004
            shifts 0 5 : 536870912
            """);
        Script.run("18: only k of 0", """
            tell 1412
            shifts 0 5 : 1
            """);
        Script.run("18: no k at all, where the first, the second or both can not", """
            tell 13
            shifts 0 5 : 0
            tell 1413
            shifts 0 5 : 0
            tell 10
            shifts 0 5 : 0
            gap 5 1
            gap 0 3
            tell 01
            shifts 4 0 : 0
            shifts 0 4 : 0
            tell 03
            shifts 5 0 : 0
            shifts 0 5 : 0
            """);
        Script.run("18: as many FINGERS as there may be", """
            windows 5
            tell 02
            shifts 0 2 : 0
            windows 6
            shifts 0 2 : 1
            windows 2
            tell 0204
            shifts 0 1 : 0
            tell 0402
            shifts 1 0 : 0
            tell 0406
            shifts 0 1 : 1
            """);
        Script.run("18: LENGTHS 01 and 20", """
            windows 2
            gap 0 9
            gap 1 9
            tell 20
            shifts 0 1 : 1
            tell 2020
            shifts 1 0 : 3
            windows 4
            gap 1 1
            gap 3 1
            set 0 1
            tell 01
            shifts 0 3 : 0
            windows 5
            gap 1 1
            set 0 1
            shifts 0 4 : 1
            """);
    }
}
