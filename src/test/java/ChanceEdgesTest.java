/** The edges that the document names for promises 27 to 33, a sentence a script. */
public final class ChanceEdgesTest {
    public static void main(String[] args) {
        turnsRefused();
        turnsNone();
        turnsFirstWindow();
        slipsRefused();
        slipsSurely();
        slipsOfAll();
        calm();
        yearRefused();
        yearShortestAndLongest();
        yearIfThatCanBe();
        imageAndRestoreRefused();
        imageKeepsAllButThePad();
        imagesStay();
        told();
        toldEmptyAndFull();
        Check.end();
    }

    private static void turnsRefused() {
        Script.run("27: what 0 to 1", """
            turns -1 : OUTSIDE
            turns 2 : OUTSIDE
            turns MIN : OUTSIDE
            turns MAX : OUTSIDE
            play abcd
            turns -1 : OUTSIDE
            turns 2 : OUTSIDE
            """);
    }

    private static void turnsNone() {
        Script.run("27: as many as there may be: who begins can not, and has lost", """
            play abcd
            turns 0 : 1
            turns 1 : NONE
            windows 2
            turns 0 : 0
            turns 1 : 0
            play b
            turns 0 : 1
            turns 1 : NONE
            windows 3
            turns 0 : 0
            turns 1 : 0
            play c
            turns 0 : 1
            turns 1 : NONE
            windows 10
            play abcdefgh
            turns 0 : 1
            turns 1 : NONE
            """);
        Script.run("27: there may be one more, but each CLASHES", """
            windows 4
            gap 0 1
            gap 1 4
            gap 3 1
            set 0 8
            set 1 3
            play d
            turns 0 : 1
            turns 1 : NONE
            told 6 : 8
            """);
    }

    private static void turnsFirstWindow() {
        Script.run("27: the last WINDOW alone wins", """
            windows 4
            gap 0 1
            gap 1 4
            gap 3 1
            set 0 8
            set 1 3
            turns 0 : 0
            turns 1 : 3
            told 6 : 0
            """);
        Script.run("27: the first of several, when one more may be put", """
            windows 4
            play b
            turns 0 : 0
            turns 1 : 0
            play bc
            turns 0 : 0
            turns 1 : 0
            set 1 99
            turns 1 : 0
            play ca
            turns 0 : 0
            turns 1 : 1
            """);
        Script.run("27: by LIMIT 99 nothing CLASHES: four turns, then three", """
            set 1 99
            turns 0 : 1
            turns 1 : NONE
            play a
            turns 0 : 0
            turns 1 : 1
            windows 5
            turns 0 : 0
            turns 1 : 0
            """);
    }

    private static void slipsRefused() {
        Script.run("28: UNKNOWN, also where something is OUTSIDE", """
            slips -1 14 1 0 : LOST+UNKNOWN
            slips 6 14 1 0 : LOST+UNKNOWN
            slips MIN 14 1 0 : LOST+UNKNOWN
            slips MAX 14 1 0 : LOST+UNKNOWN
            slips 6 0 1 0 : LOST+UNKNOWN
            slips 6 14 11 0 : LOST+UNKNOWN
            slips -1 14 1 2 : LOST+UNKNOWN
            """);
        Script.run("28: v 1 to 200, as of stopped", """
            slips 0 0 1 0 : LOST+OUTSIDE
            slips 0 1 1 0 : 0
            slips 0 1 1 1 : 1
            slips 0 200 1 0 : 0
            slips 0 200 1 1 : 1
            slips 0 201 1 0 : LOST+OUTSIDE
            slips 0 MIN 1 1 : LOST+OUTSIDE
            slips 0 MAX 1 1 : LOST+OUTSIDE
            """);
        Script.run("28: t 0 to 10, part 0 to 1", """
            play b
            slips 0 14 -1 0 : LOST+OUTSIDE
            slips 0 14 0 0 : 0
            slips 0 14 10 0 : 1
            slips 0 14 11 0 : LOST+OUTSIDE
            slips 0 14 MIN 1 : LOST+OUTSIDE
            slips 0 14 MAX 1 : LOST+OUTSIDE
            slips 0 14 3 -1 : LOST+OUTSIDE
            slips 0 14 3 0 : 3
            slips 0 14 3 1 : 10
            slips 0 14 3 2 : LOST+OUTSIDE
            slips 0 14 3 MIN : LOST+OUTSIDE
            slips 0 14 3 MAX : LOST+OUTSIDE
            """);
    }

    private static void slipsSurely() {
        Script.run("28: no FINGERS: 1 by 1 or 0 by 1", """
            slips 0 14 0 0 : 1
            slips 0 14 0 1 : 1
            slips 5 14 10 0 : 1
            slips 5 14 10 1 : 1
            slips 5 13 10 0 : 0
            slips 5 13 10 1 : 1
            """);
        Script.run("28: by 0 tenths all stay, by 10 all go", """
            play bd
            slips 2 4 0 0 : 1
            slips 2 4 0 1 : 1
            slips 2 14 0 0 : 0
            slips 2 14 0 1 : 1
            slips 2 4 10 0 : 0
            slips 2 4 10 1 : 1
            slips 2 14 10 0 : 1
            slips 2 14 10 1 : 1
            told 6 : 10
            """);
        Script.run("28: in lowest terms", """
            play b
            slips 0 4 1 0 : 9
            slips 0 4 1 1 : 10
            slips 0 4 2 0 : 4
            slips 0 4 2 1 : 5
            slips 0 4 5 0 : 1
            slips 0 4 5 1 : 2
            slips 0 4 9 0 : 1
            slips 0 4 9 1 : 10
            """);
    }

    private static void slipsOfAll() {
        Script.run("28: eight FINGERS, the most that there may be", """
            windows 10
            play abcdefgh
            slips 9 22 1 0 : 1
            slips 9 22 1 1 : 100000000
            slips 9 22 9 0 : 43046721
            slips 9 22 9 1 : 100000000
            slips 9 22 5 0 : 1
            slips 9 22 5 1 : 256
            slips 9 6 1 0 : 9
            slips 9 6 1 1 : 10
            slips 0 2 5 0 : 1
            slips 0 2 5 1 : 4
            """);
    }

    private static void calm() {
        Script.run("29: t 0 to 10, part 0 to 1", """
            play f
            calm -1 0 : LOST+OUTSIDE
            calm 0 0 : 0
            calm 0 1 : 1
            calm 10 0 : 1
            calm 10 1 : 1
            calm 11 0 : LOST+OUTSIDE
            calm MIN 0 : LOST+OUTSIDE
            calm MAX 0 : LOST+OUTSIDE
            calm 3 -1 : LOST+OUTSIDE
            calm 3 0 : 3
            calm 3 1 : 10
            calm 3 2 : LOST+OUTSIDE
            calm 3 MIN : LOST+OUTSIDE
            calm 3 MAX : LOST+OUTSIDE
            calm 11 2 : LOST+OUTSIDE
            """);
        Script.run("29: no FINGERS, nothing CLASHES", """
            set 1 1
            calm 0 0 : 1
            calm 0 1 : 1
            calm 10 0 : 1
            calm 10 1 : 1
            """);
        Script.run("29: eight FINGERS", """
            windows 10
            play abcdefgh
            calm 0 0 : 1
            calm 1 0 : 98965567
            calm 1 1 : 100000000
            calm 5 0 : 175
            calm 5 1 : 256
            calm 9 0 : 55525087
            calm 9 1 : 100000000
            calm 10 0 : 1
            calm 10 1 : 1
            set 1 99
            calm 5 0 : 1
            calm 5 1 : 1
            """);
    }

    private static void yearRefused() {
        Script.run("30: seeds 0 to 9999, 1 to 99 ACTS, what 0 to 2", """
            year -1 1 0 : OUTSIDE
            year 0 1 0 : 0
            year 9999 1 0 : 1
            year 10000 1 0 : OUTSIDE
            year 65537 1 0 : OUTSIDE
            year MIN 1 0 : OUTSIDE
            year MAX 1 0 : OUTSIDE
            year 0 0 0 : OUTSIDE
            year 0 -1 0 : OUTSIDE
            year 0 99 0 : 58
            year 0 100 0 : OUTSIDE
            year 0 MIN 0 : OUTSIDE
            year 0 MAX 0 : OUTSIDE
            year 0 1 -1 : OUTSIDE
            year 0 1 2 : 4
            year 0 1 3 : OUTSIDE
            year 0 1 MIN : OUTSIDE
            year 0 1 MAX : OUTSIDE
            """);
    }

    private static void yearShortestAndLongest() {
        // these answers come from another program, which says the document again in another language
        Script.run("30: one ACT and 99, by the least seed and the largest; nothing is DONE in fact", """
            year 0 1 1 : 6
            year 0 99 1 : 529
            year 0 99 2 : 57
            year 9999 1 1 : 10
            year 9999 1 2 : 16
            year 9999 99 0 : 61
            year 9999 99 1 : 570
            year 9999 99 2 : 52
            told 5 : 0
            told 6 : 0
            """);
        Script.run("30: two WINDOWS and ten", """
            windows 2
            year 0 99 0 : 22
            year 0 99 1 : 651
            year 0 99 2 : 2
            year 9999 99 0 : 8
            year 9999 99 1 : 736
            windows 10
            year 0 99 0 : 78
            year 0 99 1 : 615
            year 0 99 2 : 438
            year 9999 99 0 : 68
            year 9999 99 1 : 544
            year 9999 99 2 : 230
            """);
        // 75 times 872 and 74 is 65474, the last that is not left over; 873 comes to 12, 874 to 87
        Script.run("30: left over by 65537 at the first step", """
            year 872 1 1 : 6
            year 872 1 2 : 4
            year 873 1 1 : 6
            year 873 1 2 : 4
            year 874 1 1 : 12
            year 874 1 2 : 32
            """);
    }

    private static void yearIfThatCanBe() {
        Script.run("30: DAMP 9 and as many FINGERS as there may be", """
            play +++++++++abcd
            year 9999 1 0 : 1
            year 9999 1 1 : 2
            year 9999 1 2 : 15
            year 0 99 0 : 94
            year 0 99 1 : 504
            year 0 99 2 : 30
            year 9999 99 0 : 93
            year 9999 99 1 : 460
            year 9999 99 2 : 15
            told 5 : 9
            told 6 : 15
            """);
        Script.run("30: one more than DAMP 9, one less than DAMP 0", seedsOfDamp());
    }

    private static String seedsOfDamp() {
        int more = firstSeed(0);
        int less = firstSeed(1);
        return "year " + less + " 1 1 : 14\nyear " + more + " 1 1 : 15\n"
            + "play ++++++++\nyear " + more + " 1 1 : 23\nyear " + less + " 1 1 : 21\n"
            + "play +\nyear " + more + " 1 1 : 23\nyear " + less + " 1 1 : 22\n";
    }

    private static int firstSeed(int rest) {
        int seed = 0;
        while ((75 * seed + 74) % 65537 % 5 != rest) {
            seed++;
        }
        return seed;
    }

    private static void imageAndRestoreRefused() {
        Script.run("31 and 32: IMAGES 0 and 1", """
            image -1 : OUTSIDE
            image 2 : OUTSIDE
            image MIN : OUTSIDE
            image MAX : OUTSIDE
            restore -1 : OUTSIDE
            restore 2 : OUTSIDE
            restore MIN : OUTSIDE
            restore MAX : OUTSIDE
            restore 0 : STATE
            restore 1 : STATE
            play ab
            image 0 : 1
            restore 1 : STATE
            restore 2 : OUTSIDE
            image 2 : OUTSIDE
            restore 0 : 1
            image 1 : 1
            restore 1 : 1
            """);
        Script.run("32: STATE, though the other was kept", """
            image 1 : 1
            play a
            restore 0 : STATE
            told 6 : 1
            restore 1 : 1
            told 6 : 0
            """);
        Script.run("31: a refused image keeps nothing", """
            play a
            image 0
            play b
            image 2 : OUTSIDE
            image -1 : OUTSIDE
            restore 0 : 1
            told 6 : 1
            restore 1 : STATE
            """);
    }

    private static void imageKeepsAllButThePad() {
        Script.run("31 and 32: all at its least, then all at its most, and back", """
            windows 2
            gap 0 1
            gap 1 1
            set 0 1
            set 1 1
            set 2 0
            image 0
            windows 10
            gap 0 9
            gap 9 9
            set 0 9
            set 1 99
            set 2 9
            play +++++++++cdefghij
            times 8 seen 9 200
            times 111 borrow 9 0 9
            fill a
            image 1
            restore 0 : 1
            told 0 : 60
            told 1 : 2
            told 2 : 1
            told 3 : 1
            told 4 : 0
            told 5 : 0
            told 6 : 0
            told 7 : 0
            told 10 : 1
            told 11 : 1
            told 19 : OUTSIDE
            teas : 0
            fit 0 : 3
            wipe
            restore 1 : 1
            told 0 : 0
            told 1 : 10
            told 2 : 9
            told 3 : 99
            told 4 : 9
            told 5 : 9
            told 6 : 1020
            told 7 : 8
            told 10 : 9
            told 11 : 2
            told 19 : 9
            seen 0 1 : FULL
            fit 0 : 0
            borrow 9 0 1 : STATE
            """);
    }

    private static void imagesStay() {
        Script.run("32: it can be had again, as it was when it was kept", """
            seen 0 14
            image 0
            seen 0 12
            borrow 0 1 5
            play a
            restore 0 : 1
            told 7 : 1
            told 6 : 0
            fit 0 : 1
            seen 0 12 : 2
            gap 0 9
            restore 0 : 1
            told 7 : 1
            told 10 : 2
            borrow 0 1 1 : 1001
            image 0 : 1
            restore 0 : 1
            borrow 0 1 1 : 1002
            """);
        Script.run("32: a full row of SIGHTS comes back, the first and the last of them as they were", """
            seen 0 12
            times 6 seen 4 12
            seen 5 2
            image 0
            fit 0 : 1
            forget
            times 8 seen 3 200
            image 1
            fit 0 : 0
            restore 0 : 1
            told 7 : 8
            fit 0 : 1
            fit 3 : 32
            ask 0 : 1
            restore 1 : 1
            fit 0 : 0
            ask 0 : NONE
            forget : 8
            restore 0 : 1
            fit 3 : 32
            seen 0 12 : FULL
            """);
        Script.run("31: kept anew, and the two apart", """
            play a
            image 0
            play b
            image 1
            play c
            image 0
            restore 1 : 1
            told 6 : 3
            restore 0 : 1
            told 6 : 7
            """);
    }

    private static void told() {
        Script.run("33: 0 to 7, 10 and a WINDOW", """
            told -1 : OUTSIDE
            told 0 : 0
            told 7 : 0
            told 8 : OUTSIDE
            told 9 : OUTSIDE
            told 10 : 2
            told 15 : 2
            told 16 : OUTSIDE
            told 19 : OUTSIDE
            told 20 : OUTSIDE
            told MIN : OUTSIDE
            told MAX : OUTSIDE
            told -2147483638 : OUTSIDE
            windows 2
            told 11 : 2
            told 12 : OUTSIDE
            windows 10
            told 19 : 2
            told 20 : OUTSIDE
            """);
    }

    private static void toldEmptyAndFull() {
        Script.run("33: all at its most", """
            windows 10
            gap 0 9
            gap 9 9
            set 0 9
            set 1 99
            set 2 9
            play +++++++++cdefghij
            times 8 seen 0 1
            fill +
            told 0 : 60
            told 1 : 10
            told 2 : 9
            told 3 : 99
            told 4 : 9
            told 5 : 9
            told 6 : 1020
            told 7 : 8
            told 10 : 9
            told 19 : 9
            """);
        Script.run("33: all at its least", """
            windows 2
            gap 0 1
            gap 1 1
            set 0 1
            set 1 1
            set 2 0
            told 0 : 0
            told 1 : 2
            told 2 : 1
            told 3 : 1
            told 4 : 0
            told 5 : 0
            told 6 : 0
            told 7 : 0
            told 10 : 1
            told 11 : 1
            """);
    }
}
