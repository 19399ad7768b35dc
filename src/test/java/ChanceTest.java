/** Promises 27 to 30: turns, slips, calm, year. */
public final class ChanceTest {
    public static void main(String[] args) {
        turns();
        turnsFromAClash();
        slips();
        slipsRefused();
        calm();
        year();
        yearByHand();
        Check.end();
    }

    private static void turn(StreetString x, int winner, int window) {
        Check.due("turns(0)", x.turns(0), winner);
        Check.due("turns(1)", x.turns(1), window);
    }

    private static void turns() {
        StreetString x = new StreetString();
        x.windows(2);
        // one finger may be put; a: 4 4; so who begins wins
        turn(x, 0, 0);
        Check.play(x, "a");
        turn(x, 1, -6);
        x.windows(3);
        turn(x, 0, 0);
        x.windows(4);
        // two may be put; hooks at 2 4 6 8, the end at 10
        // a: 8 8 8 8; b: 4 6 6 6; c: 6 6 4 4; d: 8 8 8 2
        // behind each: a b (2 6 6 6), a c (4 4 4 4), a d (6 6 6 2), b c (4 2 4 4), b d (4 4 4 2), c d (6 6 2 2)
        turn(x, 1, -6);
        x.set(1, 1);
        // by a limit of 1 all must hear the same: a, then c
        turn(x, 1, -6);
        Check.play(x, "c");
        // then a
        turn(x, 0, 0);
        Check.play(x, "a");
        turn(x, 1, -6);
        Check.due("turns(2)", x.turns(2), -2);
        Check.due("turns(-1)", x.turns(-1), -2);
    }

    private static void turnsFromAClash() {
        StreetString x = new StreetString();
        x.windows(4);
        x.set(1, 2);
        // d: 8 8 8 2 clashes; a d: 6 6 6 2 (3) clashes; b d: 4 4 4 2 does not; c d: 6 6 2 2 clashes
        Check.play(x, "d");
        turn(x, 0, 1);
        Check.due("nothing is changed", x.told(6), 8);
    }

    private static void slip(StreetString x, int[] told, long upper, long lower) {
        String call = "slips " + told[0] + " " + told[1] + " " + told[2];
        Check.due(call + " 0", x.slips(told[0], told[1], told[2], 0), upper);
        Check.due(call + " 1", x.slips(told[0], told[1], told[2], 1), lower);
    }

    private static void slips() {
        StreetString x = new StreetString();
        slip(x, new int[] {0, 14, 3}, 1, 1);
        slip(x, new int[] {0, 13, 3}, 0, 1);
        slip(x, new int[] {0, 200, 3}, 0, 1);
        slip(x, new int[] {0, 1, 3}, 0, 1);
        Check.play(x, "bd");
        // window 2 hears 4 by both, 8 by d alone, 10 by b alone, 14 by none
        slip(x, new int[] {2, 4, 3}, 49, 100);
        slip(x, new int[] {2, 8, 3}, 21, 100);
        slip(x, new int[] {2, 10, 3}, 21, 100);
        slip(x, new int[] {2, 14, 3}, 9, 100);
        slip(x, new int[] {2, 4, 0}, 1, 1);
        slip(x, new int[] {2, 14, 0}, 0, 1);
        slip(x, new int[] {2, 14, 10}, 1, 1);
        slip(x, new int[] {2, 4, 10}, 0, 1);
        slip(x, new int[] {2, 4, 5}, 1, 4);
        // window 0 hears 4 by b whatever d does
        slip(x, new int[] {0, 4, 4}, 3, 5);
        Check.due("nothing is changed", x.told(6), 10);
        x.windows(10);
        Check.play(x, "abcdefgh");
        // only if all eight slip
        slip(x, new int[] {9, 22, 1}, 1, 100000000);
        slip(x, new int[] {9, 6, 9}, 1, 10);
    }

    private static void slipsRefused() {
        StreetString x = new StreetString();
        Check.lost("no such window", x.slips(6, 1, 1, 0), -1);
        Check.lost("unknown comes first", x.slips(-1, 0, 11, 2), -1);
        Check.lost("v of 0", x.slips(0, 0, 1, 0), -2);
        Check.lost("v of 201", x.slips(0, 201, 1, 0), -2);
        Check.lost("t of -1", x.slips(0, 1, -1, 0), -2);
        Check.lost("t of 11", x.slips(0, 1, 11, 0), -2);
        Check.lost("part of 2", x.slips(0, 1, 1, 2), -2);
        Check.lost("part of -1", x.slips(0, 1, 1, -1), -2);
        Check.lost("calm t of -1", x.calm(-1, 0), -2);
        Check.lost("calm t of 11", x.calm(11, 0), -2);
        Check.lost("calm part of 2", x.calm(1, 2), -2);
        Check.lost("calm part of -1", x.calm(1, -1), -2);
    }

    private static void calmly(StreetString x, int t, long upper, long lower) {
        Check.due("calm " + t + " 0", x.calm(t, 0), upper);
        Check.due("calm " + t + " 1", x.calm(t, 1), lower);
    }

    private static void calm() {
        StreetString x = new StreetString();
        calmly(x, 0, 1, 1);
        calmly(x, 10, 1, 1);
        Check.play(x, "bc");
        // both: 4 2 8, calm; c alone: 6 8, calm; b alone: 4 10, a clash (5/2); none: calm
        calmly(x, 3, 79, 100);
        calmly(x, 0, 1, 1);
        calmly(x, 5, 3, 4);
        x.set(1, 3);
        // both: 8/2 is 4, a clash; c alone: 4/3, a clash
        calmly(x, 3, 9, 100);
        calmly(x, 0, 0, 1);
        calmly(x, 10, 1, 1);
    }

    private static void year() {
        StreetString x = new StreetString();
        Check.due("seed of -1", x.year(-1, 1, 0), -2);
        Check.due("seed of 10000", x.year(10000, 1, 0), -2);
        Check.due("m of 0", x.year(0, 0, 0), -2);
        Check.due("m of 100", x.year(0, 100, 0), -2);
        Check.due("what of 3", x.year(0, 1, 3), -2);
        Check.due("what of -1", x.year(0, 1, -1), -2);
        x.year(9999, 99, 0);
        Check.due("no fingers in fact", x.told(6), 0);
        Check.due("no damp in fact", x.told(5), 0);
    }

    private static void yearByHand() {
        StreetString x = new StreetString();
        // 74: 4, window 14 left over by 6: c; then 5624: 4, 1124 by 6: c
        Check.due("c", x.year(0, 1, 2), 4);
        Check.due("6", x.year(0, 1, 1), 6);
        Check.due("c put and lifted", x.year(0, 2, 2), 0);
        Check.due("6 and 14", x.year(0, 2, 1), 20);
        // 3 becomes 299: 4, 59 by 6: f, a clash of 12 and 2
        Check.due("f", x.year(3, 1, 2), 32);
        Check.due("it clashes", x.year(3, 1, 0), 1);
        Check.due("12", x.year(3, 1, 1), 12);
        // 5624 becomes 421874 left over by 65537, 28652: 2, 5730 by 6: a
        Check.due("then a", x.year(0, 3, 2), 1);
        Check.due("6 and 14 and 12", x.year(0, 3, 1), 32);
        // 1 becomes 149: 4, 29 by 6: f; then 11249: 4, 2249 by 6: f
        Check.due("12 and 14", x.year(1, 2, 1), 26);
        // 2621 becomes 38: 3, 7 by 6: b, above which it is 4 and below 10
        Check.due("what the first hears", x.year(2621, 1, 1), 4);
        // 884 becomes 66374 left over by 65537, 837: 2, 167 by 6: f
        Check.due("left over by 65537", x.year(884, 1, 2), 32);
        // 9999 becomes 749999 left over by 65537, 29092: 2, 5818 by 6: e
        Check.due("e", x.year(9999, 1, 2), 16);
        int less = seedWithRest(1);
        Check.due("no less damp than none", x.year(less, 1, 1), 14);
        int more = seedWithRest(0);
        Check.due("damp is one more", x.year(more, 1, 1), 15);
        Check.play(x, "+");
        Check.due("damp is one less", x.year(less, 1, 1), 14);
        Check.play(x, "++++++++");
        Check.due("no more damp than nine", x.year(more, 1, 1), 23);
        Check.play(x, "abde");
        Check.due("no finger too many", x.year(0, 1, 2), 27);
    }

    private static int seedWithRest(int rest) {
        int seed = 0;
        while ((75 * seed + 74) % 65537 % 5 != rest) {
            seed++;
        }
        return seed;
    }
}
