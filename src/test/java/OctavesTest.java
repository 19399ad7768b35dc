/** Promises 23 to 26: borrow, teas, feet, hooks. */
public final class OctavesTest {
    public static void main(String[] args) {
        borrow();
        borrowTooMuch();
        teas();
        teasOfMany();
        feet();
        hooks();
        hooksRefused();
        Check.end();
    }

    private static void borrow() {
        StreetString x = new StreetString();
        Check.due("borrow(0, 1, 9)", x.borrow(0, 1, 9), 1009);
        Check.due("borrow(1, 2, 1)", x.borrow(1, 2, 1), 992);
        Check.due("borrow(2, 0, 5)", x.borrow(2, 0, 5), 1004);
        Check.due("borrow(0, 5, 2)", x.borrow(0, 5, 2), 1006);
        Check.due("one window twice", x.borrow(0, 0, 1), -1);
        Check.due("no such window", x.borrow(6, 0, 1), -1);
        Check.due("no such other window", x.borrow(0, -1, 0), -1);
        Check.due("v of 0", x.borrow(0, 1, 0), -2);
        Check.due("v of 10", x.borrow(0, 1, 10), -2);
        Check.due("nothing was borrowed", x.borrow(0, 1, 1), 1007);
    }

    private static void borrowTooMuch() {
        StreetString x = new StreetString();
        for (int i = 1; i <= 111; i++) {
            Check.due("borrow(0, 1, 9)", x.borrow(0, 1, 9), 1000 + 9 * i);
        }
        Check.due("he would owe 1000", x.borrow(0, 2, 1), -3);
        Check.due("he would owe more", x.borrow(0, 2, 9), -3);
        Check.due("the other would be owed 1000", x.borrow(2, 1, 1), -3);
        Check.due("unknown comes before that", x.borrow(0, 6, 1), -1);
        Check.due("outside comes before that", x.borrow(0, 1, 10), -2);
        Check.due("the other way", x.borrow(1, 0, 1), 2);
        Check.due("there is room for one again", x.borrow(0, 2, 1), 1999);
        Check.due("and no more", x.borrow(0, 3, 1), -3);
        Check.due("two more of him", x.borrow(3, 1, 2), -3);
        Check.due("one more of him", x.borrow(3, 1, 1), 1001);
        Check.due("0 and 1 are quit by one, 2 and 3 by one", x.teas(), 2);
    }

    private static void teas() {
        StreetString x = new StreetString();
        Check.due("nobody owes", x.teas(), 0);
        x.borrow(0, 1, 3);
        Check.due("one owes one", x.teas(), 1);
        x.borrow(1, 2, 3);
        Check.due("it goes through", x.teas(), 1);
        x.borrow(2, 0, 3);
        Check.due("in a ring", x.teas(), 0);
        // 0 owes 5, 1 is owed 2, 2 is owed 3
        x.borrow(0, 1, 2);
        x.borrow(0, 2, 3);
        Check.due("three", x.teas(), 2);
        // 3 owes 2, 4 is owed 2: with 1 apart, still a pair by itself
        x.borrow(3, 4, 2);
        Check.due("three and two", x.teas(), 3);
        // 5 is owed 1, 3 owes 3: 3 and 2 are quit by one, 0 and 1, 4, 5 by three
        x.borrow(3, 5, 1);
        Check.due("two groups by who fits whom", x.teas(), 4);
    }

    private static void teasOfMany() {
        StreetString x = new StreetString();
        x.windows(10);
        for (int w = 0; w < 9; w++) {
            x.borrow(w, w + 1, w + 1);
        }
        // 1 1 1 1 1 1 1 1 1 and -9: no group within
        Check.due("nine owe one", x.teas(), 9);
        StreetString y = new StreetString();
        y.windows(10);
        for (int w = 0; w < 10; w += 2) {
            y.borrow(w, w + 1, w + 1);
        }
        Check.due("five pairs", y.teas(), 5);
        y.borrow(0, 2, 1);
        // 2 -1 2 -3 5 -5 7 -7 9 -9
        Check.due("a four and three pairs", y.teas(), 6);
    }

    private static void feet() {
        StreetString x = new StreetString();
        // 14 feet: -4; by a finger 12: -2, 10: 0, 8: -8, 6: -6, 4: -4, 2: -2
        Check.due("all from none", x.feet(), 1 + 2 + 32);
        x.set(2, 9);
        Check.due("a dear string is best short", x.feet(), 63);
        x.set(2, 0);
        Check.due("ten feet are ten pence", x.feet(), 0);
        Check.play(x, "c");
        // 6 6 8 8 8 8; c lifted 14; others shorter
        Check.due("only who lifts his own has ten", x.feet(), 4);
        x.set(2, 1);
        // -6 -6 -8 -8 -8 -8; a: 4, b: 2, c: 14 (-4), d: 6, e: 4, f: 2
        Check.due("all have more", x.feet(), 63);
        Check.play(x, "abd");
        // a b c d; e and f can put none: 2 2 2 6 6 6; a lifted: 4 (worse), b: 4, c: 4, d: 8
        Check.due("no more fingers may be put", x.feet(), 0);
        Check.play(x, "bc");
        // a d: 6 6 6 6 6 6; a lifted: 8; d lifted: 12 (-2); b: 4, c: 2; e: 4; f: 2
        Check.due("who puts and who lifts", x.feet(), 2 + 4 + 8 + 16 + 32);
        StreetString y = Check.with("++++++e");
        // all hear 10 (0 pence); e lifted: 20 (0 pence); any other less than ten
        Check.due("as much is not more", y.feet(), 0);
    }

    private static void hook(StreetString x, int f, int lengths, int size, int where) {
        Check.due("hooks " + f + " " + lengths + " 0", x.hooks(f, lengths, 0), size);
        Check.due("hooks " + f + " " + lengths + " 1", x.hooks(f, lengths, 1), where);
    }

    private static void hooks() {
        StreetString x = new StreetString();
        hook(x, 2, 0, 0, 0);
        hook(x, 2, 4, 0, 0);
        hook(x, 2, 2, 1, 2);
        hook(x, 2, 6, 1, 2);
        hook(x, 2, 8, -6, -6);
        hook(x, 16, 1 << 16, 0, 0);
        hook(x, 15, 1 << 16, -6, -6);
        hook(x, 16, 1 << 1, 1, 2);
        // 1 and 15 by one hook, the higher
        hook(x, 16, 1 << 1 | 1 << 15, 1, 2);
        // 1 and 2 by two: at 1 and 2
        hook(x, 16, 1 << 1 | 1 << 2, 2, 6);
        // 6 and 9 of 15: one hook at 6 or 9
        hook(x, 15, 1 << 6 | 1 << 9, 1, 1 << 6);
        // a perfect ruler of 6: 0 1 4 6
        hook(x, 6, 126, 2, 1 << 1 | 1 << 4);
        Check.due("all of 16", x.hooks(16, 131070, 0), 5);
    }

    private static void hooksRefused() {
        StreetString x = new StreetString();
        Check.due("f of 1", x.hooks(1, 0, 0), -2);
        Check.due("f of 17", x.hooks(17, 0, 0), -2);
        Check.due("no length of 0", x.hooks(4, 1, 0), -2);
        Check.due("none of 17", x.hooks(16, 1 << 17, 0), -2);
        Check.due("none below", x.hooks(16, Integer.MIN_VALUE, 0), -2);
        Check.due("none at all", x.hooks(16, -1, 0), -2);
        Check.due("what of 2", x.hooks(4, 4, 2), -2);
        Check.due("what of -1", x.hooks(4, 4, -1), -2);
    }
}
