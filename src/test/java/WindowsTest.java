/** Promises 1 to 7: a new object, windows, gap, set, say, wipe, fault. */
public final class WindowsTest {
    public static void main(String[] args) {
        newObject();
        windows();
        gap();
        set();
        sayAndWipe();
        eveningFault();
        tuneFault();
        Check.end();
    }

    private static void newObject() {
        StreetString x = new StreetString();
        Check.due("signs", x.told(0), 0);
        Check.due("windows", x.told(1), 6);
        Check.due("end", x.told(2), 2);
        Check.due("limit", x.told(3), 4);
        Check.due("rent", x.told(4), 1);
        Check.due("damp", x.told(5), 0);
        Check.due("fingers", x.told(6), 0);
        Check.due("sights", x.told(7), 0);
        for (int w = 0; w < 6; w++) {
            Check.due("gap of " + w, x.told(10 + w), 2);
            Check.due("hears " + w, x.hears(w), 14);
        }
        Check.due("no image 0", x.restore(0), -3);
        Check.due("no image 1", x.restore(1), -3);
    }

    private static void windows() {
        StreetString x = new StreetString();
        x.gap(1, 7);
        x.set(0, 8);
        x.set(1, 50);
        x.set(2, 6);
        Check.play(x, "+++b");
        x.seen(1, 3);
        x.borrow(0, 1, 4);
        x.image(1);
        Check.tell(x, "ab");
        Check.due("windows(10)", x.windows(10), 6);
        Check.due("windows", x.told(1), 10);
        Check.due("end is as at first", x.told(2), 2);
        Check.due("limit stays", x.told(3), 50);
        Check.due("rent stays", x.told(4), 6);
        Check.due("damp is as at first", x.told(5), 0);
        Check.due("fingers are as at first", x.told(6), 0);
        Check.due("sights are as at first", x.told(7), 0);
        Check.due("gap is as at first", x.told(11), 2);
        Check.due("hears(9)", x.hears(9), 22);
        Check.due("debts are as at first", x.teas(), 0);
        Check.due("the pad stays", x.told(0), 2);
        Check.due("windows(2)", x.windows(2), 10);
        Check.due("hears(1)", x.hears(1), 6);
        Check.due("hears(2)", x.hears(2), -1);
        Check.due("windows(1)", x.windows(1), -2);
        Check.due("windows(11)", x.windows(11), -2);
        Check.due("windows(-1)", x.windows(-1), -2);
        Check.due("windows(min)", x.windows(Integer.MIN_VALUE), -2);
        Check.due("nothing is changed", x.told(1), 2);
        Check.play(x, "a");
        Check.due("windows(2) again", x.windows(2), 2);
        Check.due("all is as at first again", x.told(6), 0);
        Check.due("the image stays", x.restore(1), 1);
        Check.due("windows of the image", x.told(1), 6);
    }

    private static void gap() {
        StreetString x = new StreetString();
        Check.due("gap(5, 9)", x.gap(5, 9), 2);
        Check.due("gap(5, 1)", x.gap(5, 1), 9);
        Check.due("gap of 5", x.told(15), 1);
        Check.due("hears(0)", x.hears(0), 13);
        Check.due("gap(0, 9)", x.gap(0, 9), 2);
        Check.due("hears(0)", x.hears(0), 20);
        Check.due("gap(6, 3)", x.gap(6, 3), -1);
        Check.due("gap(-1, 3)", x.gap(-1, 3), -1);
        Check.due("gap(6, 0)", x.gap(6, 0), -1);
        Check.due("gap(0, 0)", x.gap(0, 0), -2);
        Check.due("gap(0, 10)", x.gap(0, 10), -2);
        Check.due("gap of 0 is as before", x.told(10), 9);
    }

    private static void set() {
        StreetString x = new StreetString();
        Check.due("set(0, 9)", x.set(0, 9), 2);
        Check.due("set(0, 1)", x.set(0, 1), 9);
        Check.due("hears(3)", x.hears(3), 13);
        Check.due("set(0, 0)", x.set(0, 0), -2);
        Check.due("set(0, 10)", x.set(0, 10), -2);
        Check.due("set(1, 99)", x.set(1, 99), 4);
        Check.due("set(1, 1)", x.set(1, 1), 99);
        Check.due("set(1, 0)", x.set(1, 0), -2);
        Check.due("set(1, 100)", x.set(1, 100), -2);
        Check.due("set(2, 9)", x.set(2, 9), 1);
        Check.due("set(2, 0)", x.set(2, 0), 9);
        Check.due("set(2, -1)", x.set(2, -1), -2);
        Check.due("set(2, 10)", x.set(2, 10), -2);
        Check.due("set(3, 1)", x.set(3, 1), -2);
        Check.due("set(-1, 1)", x.set(-1, 1), -2);
        Check.due("end", x.told(2), 1);
        Check.due("limit", x.told(3), 1);
        Check.due("rent", x.told(4), 0);
    }

    private static void sayAndWipe() {
        StreetString x = new StreetString();
        Check.due("say(32)", x.say(32), -2);
        Check.due("say(127)", x.say(127), -2);
        Check.due("say(-1)", x.say(-1), -2);
        Check.due("say(33)", x.say(33), 1);
        Check.due("say(126)", x.say(126), 2);
        for (int i = 3; i <= 60; i++) {
            Check.due("say", x.say('.'), i);
        }
        Check.due("a sign too many", x.say('.'), -4);
        Check.due("outside comes before full", x.say(200), -2);
        Check.due("signs", x.told(0), 60);
        Check.due("wipe()", x.wipe(), 60);
        Check.due("wipe() again", x.wipe(), 0);
        Check.due("signs", x.told(0), 0);
        Check.due("say('a')", x.say('a'), 1);
    }

    private static void eveningFault() {
        StreetString x = new StreetString();
        Check.due("empty", x.fault(0), -6);
        Check.tell(x, "af+-.");
        Check.due("all stand", x.fault(0), -6);
        Check.tell(x, "a.g");
        Check.due("no window g", x.fault(0), 2);
        Check.tell(x, "A");
        Check.due("no large letter", x.fault(0), 0);
        Check.tell(x, "+-`a");
        Check.due("the sign before a", x.fault(0), 2);
        Check.tell(x, "..1g");
        Check.due("the first of two", x.fault(0), 2);
        Check.tell(x, "aj");
        Check.due("no window j", x.fault(0), 1);
        x.windows(10);
        Check.due("there is a j now", x.fault(0), -6);
        x.windows(9);
        Check.due("there is none now", x.fault(0), 1);
        Check.due("fault(2)", x.fault(2), -2);
        Check.due("fault(-1)", x.fault(-1), -2);
    }

    private static void tuneFault() {
        StreetString x = new StreetString();
        Check.due("empty", x.fault(1), 0);
        String[] texts = {"01", "20", "0120", "0", "1", "2", "00", "21", "3", "9", "1a", "a1", "011", "012", "0100", "0121", "013", "01.", "010", "1019", "29", "0/", "0:", "010100", "0102030421", "0102033"};
        int[] dues = {-6, -6, -6, 1, 1, 1, 1, 1, 0, 0, 1, 0, 3, 3, 3, 3, 2, 2, 3, -6, 1, 1, 1, 5, 9, 6};
        for (int i = 0; i < texts.length; i++) {
            Check.tell(x, texts[i]);
            Check.due("tune " + texts[i], x.fault(1), dues[i]);
        }
        Check.tell(x, "200120012001200120012001200120012001200120012001200120012001");
        Check.due("a tune of 30", x.fault(1), -6);
    }
}
