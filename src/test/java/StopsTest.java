/** Promises 15 to 18: stopped, friends, changes, shifts. */
public final class StopsTest {
    public static void main(String[] args) {
        stopped();
        stoppedByTheMost();
        friends();
        changes();
        changesRefused();
        shifts();
        shiftsAnew();
        shiftsForgetWhatWas();
        Check.end();
    }

    private static void stop(StreetString x, int window, int v, int size, int set) {
        Check.due("stopped " + window + " " + v + " 0", x.stopped(window, v, 0), size);
        Check.due("stopped " + window + " " + v + " 1", x.stopped(window, v, 1), set);
    }

    private static void stopped() {
        // fingers that there are do not count
        StreetString x = Check.with("abc");
        stop(x, 0, 14, 0, 0);
        stop(x, 0, 12, 1, 1);
        stop(x, 0, 10, 1, 16);
        stop(x, 5, 10, 1, 2);
        stop(x, 3, 2, 2, 24);
        // window 3 hears 4: c to e (4 and 16) or d to f (8 and 32)
        stop(x, 3, 4, 2, 20);
        stop(x, 3, 1, -6, -6);
        stop(x, 3, 200, -6, -6);
        Check.due("nothing is changed", x.told(6), 7);
        Check.due("stopped(6, 4, 0)", x.stopped(6, 4, 0), -1);
        Check.due("stopped(-1, 0, 0)", x.stopped(-1, 0, 0), -1);
        Check.due("stopped(0, 0, 0)", x.stopped(0, 0, 0), -2);
        Check.due("stopped(0, 201, 0)", x.stopped(0, 201, 0), -2);
        Check.due("stopped(0, 4, 2)", x.stopped(0, 4, 2), -2);
        Check.due("stopped(0, 4, -1)", x.stopped(0, 4, -1), -2);
        Check.play(x, "+");
        stop(x, 0, 15, 0, 0);
        stop(x, 0, 13, 1, 1);
    }

    private static void stoppedByTheMost() {
        StreetString x = new StreetString();
        x.windows(2);
        // a to b needs two fingers, and there may be one
        x.gap(1, 3);
        stop(x, 0, 3, -6, -6);
        stop(x, 0, 5, 1, 1);
        stop(x, 1, 2, 1, 2);
        x.windows(3);
        stop(x, 1, 2, -6, -6);
        stop(x, 1, 6, 1, 1);
        stop(x, 1, 4, 1, 2);
        x.windows(4);
        stop(x, 1, 2, 2, 6);
    }

    private static void friend(StreetString x, int[] told, int size, int set) {
        String call = "friends " + told[0] + " " + told[1] + " " + told[2] + " " + told[3];
        Check.due(call + " 0", x.friends(told[0], told[1], told[2], told[3], 0), size);
        Check.due(call + " 1", x.friends(told[0], told[1], told[2], told[3], 1), set);
    }

    private static void friends() {
        StreetString x = Check.with("f");
        friend(x, new int[] {0, 14, 5, 14}, 0, 0);
        friend(x, new int[] {0, 12, 5, 2}, 1, 32);
        friend(x, new int[] {5, 2, 0, 12}, 1, 32);
        friend(x, new int[] {0, 12, 1, 12}, 1, 1);
        friend(x, new int[] {0, 2, 1, 2}, 3, 7);
        friend(x, new int[] {0, 14, 5, 13}, -6, -6);
        friend(x, new int[] {1, 2, 3, 2}, 4, 30);
        friend(x, new int[] {0, 2, 3, 2}, 4, 27);
        // a, b, c, d are more than there may be of five
        x.windows(5);
        friend(x, new int[] {0, 2, 2, 2}, -6, -6);
        Check.due("one window twice", x.friends(1, 2, 1, 2, 0), -1);
        Check.due("no such window", x.friends(5, 2, 1, 2, 0), -1);
        Check.due("no such other window", x.friends(1, 2, 5, 0, 9), -1);
        Check.due("v of 1 can not be heard", x.friends(0, 1, 1, 2, 0), -6);
        Check.due("w of 200 can not be heard", x.friends(0, 2, 1, 200, 1), -6);
        Check.due("w of 1 can not be heard", x.friends(0, 2, 1, 1, 1), -6);
        Check.due("v of 0", x.friends(0, 0, 1, 2, 0), -2);
        Check.due("v of 201", x.friends(0, 201, 1, 2, 0), -2);
        Check.due("w of 0", x.friends(0, 2, 1, 0, 0), -2);
        Check.due("w of 201", x.friends(0, 2, 1, 201, 0), -2);
        Check.due("what of 2", x.friends(0, 2, 1, 2, 2), -2);
    }

    private static void change(StreetString x, String tune, int window, int size, int set) {
        Check.tell(x, tune);
        Check.due("changes " + tune + " " + window + " 0", x.changes(window, 0), size);
        Check.due("changes " + tune + " " + window + " 1", x.changes(window, 1), set);
    }

    private static void changes() {
        StreetString x = new StreetString();
        change(x, "14", 0, 0, 0);
        change(x, "1414", 0, 0, 0);
        change(x, "12", 0, 1, 1);
        // b put and lifted, or so twice
        change(x, "0414", 0, 2, 0);
        change(x, "04140414", 0, 4, 0);
        change(x, "05", 0, -6, -6);
        change(x, "140514", 0, -6, -6);
        Check.play(x, "ad");
        // window 0 hears a to d, 6; window 5 d to the end, 6
        change(x, "06", 0, 0, 9);
        change(x, "0608", 0, 1, 8);
        change(x, "14", 0, 2, 0);
        Check.due("nothing is changed", x.told(6), 9);
        Check.play(x, "bc");
        // 2 at window 5 is by f, for which one of a, b, c, d must go: d, as a, b, c, f are least
        change(x, "02", 5, 2, 39);
    }

    private static void changesRefused() {
        StreetString x = new StreetString();
        Check.due("an empty tune", x.changes(0, 0), -5);
        Check.tell(x, "1");
        Check.due("one digit is left", x.changes(0, 0), -5);
        Check.due("outside comes before no", x.changes(0, 2), -2);
        Check.due("unknown comes first", x.changes(6, 2), -1);
        Check.due("unknown", x.changes(-1, 0), -1);
        Check.tell(x, "a");
        Check.due("an evening is no tune", x.changes(0, 1), -5);
        Check.due("nor for two", x.shifts(0, 1), -5);
    }

    private static void shift(StreetString x, String tune, int one, int two, int due) {
        Check.tell(x, tune);
        Check.due("shifts " + tune + " " + one + " " + two, x.shifts(one, two), due);
    }

    private static void shifts() {
        StreetString x = new StreetString();
        Check.due("an empty tune", x.shifts(0, 1), -5);
        shift(x, "14", 0, 5, 1);
        shift(x, "1414", 0, 5, 3);
        shift(x, "141414", 5, 0, 7);
        // 12 twice by a, 2 twice by a, b, f; 2 at the first and 12 at the last can not be, the other way by f
        shift(x, "1202", 0, 5, 1);
        shift(x, "1202", 5, 0, 3);
        // 14 leaves no other length, so that only both at once can be
        shift(x, "1402", 0, 5, 1);
        // the first alone can not hear 13
        shift(x, "1413", 0, 5, 0);
        shift(x, "1314", 0, 5, 0);
        // 06 and 08: by c, the first 06; the first 08 is by d, then the other has 06
        shift(x, "0608", 0, 5, 2);
        Check.due("one window twice", x.shifts(2, 2), -1);
        Check.due("no such window", x.shifts(6, 2), -1);
        Check.due("no such other window", x.shifts(2, -1), -1);
        Check.tell(x, "21");
        Check.due("unknown comes before no", x.shifts(2, 2), -1);
        Check.due("a fault", x.shifts(2, 3), -5);
        StringBuilder thirty = new StringBuilder();
        for (int i = 0; i < 30; i++) {
            thirty.append("14");
        }
        shift(x, thirty.toString(), 1, 4, (1 << 30) - 1);
    }

    /** What could be heard before a hook was moved does not count any more. */
    private static void shiftsAnew() {
        StreetString x = new StreetString();
        x.windows(2);
        // hooks at 1 and 2, the end at 3; one finger: 3 3, 2 2 (a), 2 1 (b)
        x.gap(0, 1);
        x.gap(1, 1);
        x.set(0, 1);
        shift(x, "01", 0, 1, 0);
        shift(x, "0201", 1, 0, 0);
        shift(x, "02", 0, 1, 1);
        shift(x, "0203", 0, 1, 1);
        // at 1 and 2, the end at 4; 4 4, 3 3 (a), 2 2 (b)
        x.set(0, 2);
        shift(x, "03", 0, 1, 1);
        // at 9 and 18, the end at 20: 20 20, 11 11 (a), 18 2 (b)
        x.gap(0, 9);
        x.gap(1, 9);
        shift(x, "20", 0, 1, 1);
        shift(x, "2020", 0, 1, 3);
        shift(x, "03", 0, 1, 0);
        shift(x, "1802", 0, 1, 0);
        shift(x, "1111", 0, 1, 3);
        // the end at 21, no 20; at 9 and 11, the end at 20 with 1 at the last: no more than one finger
        x.set(0, 3);
        shift(x, "20", 0, 1, 0);
        x.windows(3);
        x.set(0, 1);
        x.gap(1, 1);
        // hooks at 2, 3, 5, the end at 6; none 6 6 6, a 4 4 4, b 3 3 3, c 5 5 1
        shift(x, "0501", 0, 2, 0);
        shift(x, "01", 2, 0, 0);
        x.windows(4);
        x.gap(1, 1);
        // hooks at 2, 3, 5, 7, the end at 9; the first hears 1 by a, b, the last 2 by d, or 6 by b
        shift(x, "01", 0, 3, 0);
        shift(x, "06", 0, 3, 0);
        x.windows(5);
        for (int w = 0; w < 5; w++) {
            x.gap(w, 1);
        }
        x.set(0, 1);
        // 1 at the first by a, b and at the last by e: three fingers, as many as there may be
        shift(x, "01", 0, 4, 1);
        shift(x, "0101", 4, 0, 3);
        // b to the end is 33 now, and no 1
        x.gap(2, 9);
        x.gap(3, 9);
        x.gap(4, 9);
        x.set(0, 6);
        shift(x, "01", 0, 4, 0);
    }

    private static void shiftsForgetWhatWas() {
        StreetString x = new StreetString();
        // the first hears 3 from a to b
        x.gap(1, 3);
        shift(x, "03", 0, 1, 0);
        // now only the last can hear 3, from e to the end, the first 2 at once by a, b, and the last 2 by f
        x.gap(1, 2);
        x.gap(5, 1);
        shift(x, "0302", 0, 5, 0);
        shift(x, "0302", 5, 0, 0);
        StreetString y = new StreetString();
        y.windows(3);
        for (int w = 0; w < 3; w++) {
            y.gap(w, 6);
        }
        shift(y, "20", 0, 2, 1);
        // hooks at 8, 17, 20, the end at 29: the first hears 20 by c alone, the last 9 then
        y.gap(0, 8);
        y.gap(1, 9);
        y.gap(2, 3);
        y.set(0, 9);
        shift(y, "20", 0, 2, 0);
    }
}
