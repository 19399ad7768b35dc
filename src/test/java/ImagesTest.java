/** Promises 31 to 33: image, restore, told. */
public final class ImagesTest {
    public static void main(String[] args) {
        refusals();
        keepsAllButThePad();
        twoImages();
        told();
        Check.end();
    }

    private static void refusals() {
        StreetString x = new StreetString();
        Check.due("restore(0)", x.restore(0), -3);
        Check.due("restore(1)", x.restore(1), -3);
        Check.due("restore(2)", x.restore(2), -2);
        Check.due("restore(-1)", x.restore(-1), -2);
        Check.due("image(2)", x.image(2), -2);
        Check.due("image(-1)", x.image(-1), -2);
        Check.due("image(1)", x.image(1), 1);
        Check.due("restore(0)", x.restore(0), -3);
        Check.due("restore(1)", x.restore(1), 1);
    }

    private static void keepsAllButThePad() {
        StreetString x = new StreetString();
        x.windows(7);
        x.gap(6, 9);
        x.set(0, 3);
        x.set(1, 17);
        x.set(2, 5);
        Check.play(x, "+++be");
        x.seen(4, 11);
        x.seen(0, 4);
        x.borrow(6, 2, 7);
        Check.tell(x, "abc");
        int feet = x.feet();
        int fit = x.fit(0);
        Check.due("image(0)", x.image(0), 1);
        Check.due("the pad is as it is", x.told(0), 3);
        x.windows(3);
        x.set(1, 1);
        x.set(2, 2);
        x.gap(2, 5);
        x.set(0, 6);
        x.seen(2, 1);
        x.borrow(0, 1, 1);
        Check.play(x, "b+");
        Check.tell(x, "0102");
        Check.due("restore(0)", x.restore(0), 1);
        int[] due = {4, 7, 3, 17, 5, 3, 18, 2};
        for (int what = 0; what < due.length; what++) {
            Check.due("told " + what, x.told(what), due[what]);
        }
        Check.due("gap of 6", x.told(16), 9);
        Check.due("gap of 2", x.told(12), 2);
        Check.due("feet", x.feet(), feet);
        Check.due("fit", x.fit(0), fit);
        Check.due("sights are the same", x.seen(0, 4), 3);
        Check.due("debts are as they were", x.borrow(6, 2, 1), 1008);
        Check.due("0 and 1 are quit", x.teas(), 1);
        Check.due("hears(6)", x.hears(6), 21 - 10 + 6);
        Check.due("it can be had again", x.restore(0), 1);
        Check.due("as it was kept", x.told(7), 2);
        Check.due("debts too", x.borrow(6, 2, 1), 1008);
    }

    private static void twoImages() {
        StreetString x = new StreetString();
        Check.play(x, "a");
        x.image(0);
        Check.play(x, "b");
        x.image(1);
        Check.play(x, "c");
        Check.due("restore(0)", x.restore(0), 1);
        Check.due("a", x.told(6), 1);
        Check.due("restore(1)", x.restore(1), 1);
        Check.due("a, b", x.told(6), 3);
        Check.due("image(0) anew", x.image(0), 1);
        Check.play(x, "ab");
        Check.due("restore(0)", x.restore(0), 1);
        Check.due("a, b", x.told(6), 3);
    }

    private static void told() {
        StreetString x = new StreetString();
        int[] outside = {-1, 8, 9, 16, 17, 100, Integer.MIN_VALUE, Integer.MAX_VALUE};
        for (int what : outside) {
            Check.due("told " + what, x.told(what), -2);
        }
        x.gap(5, 4);
        Check.due("told(15)", x.told(15), 4);
        x.windows(2);
        Check.due("told(12)", x.told(12), -2);
        Check.due("told(11)", x.told(11), 2);
        x.windows(10);
        Check.due("told(19)", x.told(19), 2);
        Check.due("told(20)", x.told(20), -2);
        Check.play(x, "j++");
        Check.due("fingers", x.told(6), 512);
        Check.due("damp", x.told(5), 2);
        x.say('a');
        Check.due("signs", x.told(0), 1);
    }
}
