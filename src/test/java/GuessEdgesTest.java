/** The edges that the document names for promises 19 to 26, a sentence a script. */
public final class GuessEdgesTest {
    public static void main(String[] args) {
        seenRefused();
        seenFull();
        forget();
        fitRefused();
        fitEmptyAndFull();
        fitNone();
        askRefused();
        askNone();
        askEmptyAndFull();
        borrowRefused();
        borrowTooMuch();
        teas();
        feetByRent();
        feetIfThatCanBe();
        hooksRefused();
        hooksNone();
        hooksOfAll();
        Check.end();
    }

    private static void seenRefused() {
        Script.run("19: UNKNOWN, also where v is OUTSIDE", """
            seen -1 14 : UNKNOWN
            seen 6 14 : UNKNOWN
            seen 10 14 : UNKNOWN
            seen MIN 14 : UNKNOWN
            seen MAX 14 : UNKNOWN
            seen -1 0 : UNKNOWN
            seen 6 201 : UNKNOWN
            told 7 : 0
            windows 2
            seen 1 6 : 1
            seen 2 6 : UNKNOWN
            windows 10
            seen 9 22 : 1
            seen 10 22 : UNKNOWN
            told 7 : 1
            """);
        Script.run("19: v 1 to 200", """
            seen 0 0 : OUTSIDE
            seen 0 -1 : OUTSIDE
            seen 0 1 : 1
            seen 0 0 : OUTSIDE
            seen 0 200 : 2
            seen 0 201 : OUTSIDE
            seen 0 270 : OUTSIDE
            seen 5 MIN : OUTSIDE
            seen 5 MAX : OUTSIDE
            told 7 : 2
            """);
    }

    private static void seenFull() {
        Script.run("19: 8 SIGHTS at most", """
            times 7 seen 0 14
            told 7 : 7
            seen 5 14 : 8
            seen 5 14 : FULL
            seen 0 1 : FULL
            seen 0 200 : FULL
            told 7 : 8
            fit 0 : 1
            """);
        Script.run("19: UNKNOWN and OUTSIDE come before FULL", """
            times 8 seen 3 14
            seen 6 14 : UNKNOWN
            seen -1 0 : UNKNOWN
            seen 3 0 : OUTSIDE
            seen 3 201 : OUTSIDE
            seen 3 14 : FULL
            """);
    }

    private static void forget() {
        Script.run("20: an empty and a full row of SIGHTS", """
            forget : 0
            seen 0 13
            forget : 1
            forget : 0
            fit 0 : 57
            times 8 seen 0 13
            fit 0 : 0
            forget : 8
            told 7 : 0
            fit 0 : 57
            seen 0 14 : 1
            fit 0 : 1
            """);
        Script.run("20: nothing else goes", """
            play ab+
            borrow 0 1 3
            tell cd
            seen 1 4
            image 0
            forget : 1
            told 0 : 2
            told 5 : 1
            told 6 : 3
            teas : 1
            restore 0 : 1
            told 7 : 1
            """);
    }

    private static void fitRefused() {
        Script.run("21: what 0 to 3", """
            fit -1 : OUTSIDE
            fit 0 : 57
            fit 3 : 0
            fit 4 : OUTSIDE
            fit MIN : OUTSIDE
            fit MAX : OUTSIDE
            seen 0 13
            fit -1 : OUTSIDE
            fit 4 : OUTSIDE
            """);
    }

    private static void fitEmptyAndFull() {
        int[] sets = {3, 4, 11, 26, 57, 120, 247, 502, 1013};
        for (int n = 2; n <= 10; n++) {
            Script.run("21: no SIGHTS, all sets of " + n + ", as many as there may be", "windows " + n + "\n"
                + "fit 0 : " + sets[n - 2] + "\nfit 1 : " + ((1 << n) - 1) + "\nfit 2 : 0\nfit 3 : 0\n");
        }
        Script.run("21: eight SIGHTS, and the last of them counts", """
            seen 0 14
            seen 1 14
            seen 2 14
            seen 3 14
            seen 4 14
            seen 5 14
            seen 5 14
            fit 0 : 1
            fit 1 : 0
            fit 2 : 0
            fit 3 : 0
            seen 5 13
            fit 0 : 0
            fit 3 : NONE
            """);
        Script.run("21: the first and the last WINDOW are stopped in all", """
            seen 0 10
            seen 5 2
            seen 4 10
            fit 0 : 1
            fit 1 : 33
            fit 2 : 33
            fit 3 : 33
            windows 10
            seen 0 18
            seen 9 2
            seen 8 18
            fit 1 : 513
            fit 2 : 513
            """);
        Script.run("21: a SIGHT that is refused does not count", """
            times 8 seen 5 2
            seen 5 14 : FULL
            fit 0 : 26
            fit 1 : 63
            fit 2 : 32
            fit 3 : 32
            """);
    }

    private static void fitNone() {
        Script.run("21: nothing fits: 0 of all but the least, which is NONE", """
            seen 0 200
            fit 0 : 0
            fit 1 : 0
            fit 2 : 0
            fit 3 : NONE
            forget
            seen 5 1
            fit 0 : 0
            fit 1 : 0
            fit 2 : 0
            fit 3 : NONE
            """);
        Script.run("21: by more FINGERS than there may be alone", """
            windows 3
            seen 1 2
            fit 0 : 0
            fit 3 : NONE
            windows 4
            seen 1 2
            fit 0 : 1
            fit 1 : 6
            fit 2 : 6
            fit 3 : 6
            """);
    }

    private static void askRefused() {
        Script.run("22: what 0 to 1", """
            ask -1 : OUTSIDE
            ask 2 : OUTSIDE
            ask MIN : OUTSIDE
            ask MAX : OUTSIDE
            seen 0 13
            ask -1 : OUTSIDE
            ask 2 : OUTSIDE
            """);
    }

    private static void askNone() {
        Script.run("22: NONE where all are seen", """
            windows 2
            seen 0 6
            ask 0 : 1
            ask 1 : 1
            seen 1 6
            fit 0 : 1
            ask 0 : NONE
            ask 1 : NONE
            forget
            ask 0 : 1
            """);
        Script.run("22: NONE where nothing fits", """
            seen 0 13
            ask 0 : NONE
            ask 1 : NONE
            seen 1 13
            seen 2 13
            seen 3 13
            seen 4 13
            seen 5 13
            ask 0 : NONE
            ask 1 : NONE
            """);
        Script.run("22: NONE where all of eight are seen, and the row is full", """
            windows 8
            seen 0 18
            seen 1 18
            seen 2 18
            seen 3 18
            seen 4 18
            seen 5 18
            seen 6 18
            ask 0 : 7
            ask 1 : 1
            seen 7 18
            ask 0 : NONE
            ask 1 : NONE
            """);
    }

    private static void askEmptyAndFull() {
        int[] windows = {1, 2, 0, 1, 2, 2, 2, 2, 2};
        int[] left = {1, 1, 4, 8, 14, 30, 62, 126, 254};
        for (int n = 2; n <= 10; n++) {
            Script.run("22: no SIGHTS of " + n + " WINDOWS", "windows " + n + "\n"
                + "ask 0 : " + windows[n - 2] + "\nask 1 : " + left[n - 2] + "\n");
        }
        Script.run("22: one WINDOW eight times, the least of the others", """
            times 8 seen 0 14
            ask 0 : 1
            ask 1 : 1
            forget
            times 8 seen 5 14
            ask 0 : 0
            ask 1 : 1
            """);
        Script.run("22: eight of ten WINDOWS are seen, two may be asked", """
            windows 10
            seen 0 22
            seen 1 22
            seen 2 22
            seen 3 22
            seen 4 22
            seen 5 22
            seen 6 22
            seen 8 22
            ask 0 : 7
            ask 1 : 1
            seen 7 22 : FULL
            ask 0 : 7
            """);
    }

    private static void borrowRefused() {
        Script.run("23: UNKNOWN of either and of both in one, also where v is OUTSIDE", """
            borrow -1 0 1 : UNKNOWN
            borrow 6 0 1 : UNKNOWN
            borrow 0 -1 1 : UNKNOWN
            borrow 0 6 1 : UNKNOWN
            borrow 2 2 1 : UNKNOWN
            borrow 6 6 1 : UNKNOWN
            borrow MIN 0 1 : UNKNOWN
            borrow 0 MAX 1 : UNKNOWN
            borrow 2 2 0 : UNKNOWN
            borrow 0 6 10 : UNKNOWN
            borrow -1 0 0 : UNKNOWN
            teas : 0
            """);
        Script.run("23: v 1 to 9", """
            borrow 0 1 0 : OUTSIDE
            borrow 0 1 1 : 1001
            borrow 0 1 9 : 1010
            borrow 0 1 10 : OUTSIDE
            borrow 0 1 -1 : OUTSIDE
            borrow 0 1 -9 : OUTSIDE
            borrow 0 1 MIN : OUTSIDE
            borrow 0 1 MAX : OUTSIDE
            borrow 1 0 9 : 999
            borrow 1 0 1 : 1000
            teas : 0
            """);
    }

    private static void borrowTooMuch() {
        Script.run("23: 999 are owed, 1000 are not", """
            times 110 borrow 0 1 9
            borrow 0 2 8 : 1998
            borrow 0 3 2 : STATE
            borrow 0 3 1 : 1999
            borrow 0 3 1 : STATE
            borrow 0 4 9 : STATE
            borrow 4 0 1 : 1001
            borrow 0 5 1 : 1999
            borrow 0 5 1 : STATE
            """);
        Script.run("23: 999 are owed to one, 1000 are not", """
            times 110 borrow 1 0 9
            borrow 2 0 8 : 1008
            borrow 3 0 2 : STATE
            borrow 3 0 1 : 1001
            borrow 3 0 1 : STATE
            borrow 4 0 9 : STATE
            borrow 0 4 1 : 2
            borrow 5 0 1 : 1001
            borrow 5 0 1 : STATE
            """);
        Script.run("23: UNKNOWN and OUTSIDE come before STATE", """
            times 111 borrow 0 1 9
            borrow 0 1 1 : STATE
            borrow 0 6 1 : UNKNOWN
            borrow 0 0 1 : UNKNOWN
            borrow 0 1 0 : OUTSIDE
            borrow 0 1 10 : OUTSIDE
            borrow 2 1 10 : OUTSIDE
            borrow 6 1 1 : UNKNOWN
            teas : 1
            """);
        Script.run("23: what was quit in between does not count", """
            times 111 borrow 0 1 9
            times 111 borrow 1 0 9
            teas : 0
            borrow 0 1 9 : 1009
            """);
    }

    private static void teas() {
        Script.run("24: none are needed: nothing was borrowed, or all of it back", """
            teas : 0
            borrow 0 5 9
            teas : 1
            borrow 5 0 9
            teas : 0
            """);
        Script.run("24: two WINDOWS", """
            windows 2
            teas : 0
            borrow 1 0 1
            teas : 1
            """);
        Script.run("24: the most that ten WINDOWS need, nine; and five where they are pairs", """
            windows 10
            borrow 0 9 1
            borrow 1 9 1
            borrow 2 9 1
            borrow 3 9 1
            borrow 4 9 1
            borrow 5 9 1
            borrow 6 9 1
            borrow 7 9 1
            teas : 8
            borrow 8 9 1
            teas : 9
            windows 10
            borrow 0 1 9
            borrow 2 3 9
            borrow 4 5 9
            borrow 6 7 9
            borrow 8 9 9
            teas : 5
            """);
        Script.run("24: one who owes 999", """
            windows 3
            times 111 borrow 0 1 9
            teas : 1
            borrow 1 2 9 : 10
            teas : 2
            """);
    }

    private static void feetByRent() {
        Script.run("25: RENT 0, ten pence each ten feet, cut: 9 feet are none, 10 are ten, 19 too, 20 twenty", """
            windows 2
            gap 0 1
            gap 1 1
            set 2 0
            play b
            set 0 7
            feet : 0
            set 0 8
            feet : 2
            set 0 9
            feet : 2
            play +
            feet : 0
            play +++++++
            feet : 0
            play +
            feet : 2
            """);
        Script.run("25: RENT 9, the shorter the better", """
            set 2 9
            feet : 63
            windows 2
            feet : 3
            play b
            feet : 0
            """);
        Script.run("25: as much is not more", """
            windows 2
            gap 0 5
            gap 1 5
            set 0 9
            play b+
            hears 1 : 10
            feet : 0
            play +
            feet : 0
            gap 0 4
            feet : 2
            """);
    }

    private static void feetIfThatCanBe() {
        Script.run("25: one more FINGER than there may be can not be put", """
            set 2 9
            play abc
            feet : 56
            play d
            feet : 0
            windows 3
            feet : 7
            play a
            feet : 0
            """);
        Script.run("25: a FINGER can be lifted by as many as there may be", """
            windows 2
            set 2 0
            gap 0 5
            set 0 9
            play a
            hears 0 : 11
            feet : 0
            gap 0 9
            feet : 1
            """);
    }

    private static void hooksRefused() {
        Script.run("26: f 2 to 16", """
            hooks 1 0 0 : OUTSIDE
            hooks 1 2 0 : OUTSIDE
            hooks 2 0 0 : 0
            hooks 2 2 0 : 1
            hooks 16 65536 0 : 0
            hooks 16 2 1 : 2
            hooks 17 0 0 : OUTSIDE
            hooks 17 2 1 : OUTSIDE
            hooks 0 0 0 : OUTSIDE
            hooks -1 0 0 : OUTSIDE
            hooks 34 2 0 : OUTSIDE
            hooks MIN 0 0 : OUTSIDE
            hooks MAX 0 0 : OUTSIDE
            """);
        Script.run("26: lengths 1 to 16, no others", """
            hooks 16 1 0 : OUTSIDE
            hooks 16 2 0 : 1
            hooks 16 3 0 : OUTSIDE
            hooks 16 131070 0 : 5
            hooks 16 131071 0 : OUTSIDE
            hooks 16 131072 0 : OUTSIDE
            hooks 16 131074 1 : OUTSIDE
            hooks 2 131072 0 : OUTSIDE
            hooks 16 MIN 0 : OUTSIDE
            hooks 16 MAX 0 : OUTSIDE
            hooks 16 -1 1 : OUTSIDE
            hooks 16 -2 1 : OUTSIDE
            """);
        Script.run("26: what 0 to 1, also where it were NONE", """
            hooks 4 4 -1 : OUTSIDE
            hooks 4 4 2 : OUTSIDE
            hooks 4 4 MIN : OUTSIDE
            hooks 4 4 MAX : OUTSIDE
            hooks 4 32 2 : OUTSIDE
            hooks 4 32 -1 : OUTSIDE
            hooks 1 32 0 : OUTSIDE
            """);
    }

    private static void hooksNone() {
        for (int f = 2; f <= 15; f++) {
            Script.run("26: a length of f is had without any hook, one of more than f is not had", ""
                + "hooks " + f + " 0 0 : 0\nhooks " + f + " 0 1 : 0\n"
                + "hooks " + f + " " + (1 << f) + " 0 : 0\nhooks " + f + " " + (1 << f) + " 1 : 0\n"
                + "hooks " + f + " " + (1 << f + 1) + " 0 : NONE\nhooks " + f + " " + (1 << f + 1) + " 1 : NONE\n"
                + "hooks " + f + " " + (2 | 1 << f + 1) + " 1 : NONE\nhooks " + f + " 65536 0 : NONE\n"
                + "hooks " + f + " " + (1 << f - 1) + " 0 : 1\nhooks " + f + " " + (1 << f - 1) + " 1 : 2\n");
        }
        Script.run("26: the longest string has all lengths that can be told", """
            hooks 16 65536 0 : 0
            hooks 16 65536 1 : 0
            hooks 16 0 0 : 0
            hooks 16 0 1 : 0
            hooks 16 32768 1 : 2
            """);
    }

    private static void hooksOfAll() {
        int[] fewest = {1, 1, 2, 2, 2, 3, 3, 3, 4, 4, 4, 4, 5, 5, 5};
        int[] where = {2, 2, 6, 6, 18, 14, 38, 70, 78, 142, 270, 1094, 542, 1054, 4366};
        for (int f = 2; f <= 16; f++) {
            int all = (1 << f + 1) - 2;
            Script.run("26: all lengths of " + f + " feet", "hooks " + f + " " + all + " 0 : " + fewest[f - 2] + "\n"
                + "hooks " + f + " " + all + " 1 : " + where[f - 2] + "\n");
        }
    }
}
