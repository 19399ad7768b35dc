/** Promises 19 to 22: seen, forget, fit, ask. */
public final class GuessesTest {
    public static void main(String[] args) {
        seenAndForget();
        fit();
        fitByDamp();
        ask();
        askWhenAllAreSeen();
        Check.end();
    }

    private static void seenAndForget() {
        StreetString x = new StreetString();
        Check.due("seen(6, 3)", x.seen(6, 3), -1);
        Check.due("seen(-1, 0)", x.seen(-1, 0), -1);
        Check.due("seen(0, 0)", x.seen(0, 0), -2);
        Check.due("seen(0, 201)", x.seen(0, 201), -2);
        Check.due("sights", x.told(7), 0);
        for (int i = 1; i <= 8; i++) {
            Check.due("seen", x.seen(i % 6, i == 1 ? 200 : i), i);
        }
        Check.due("one too many", x.seen(0, 1), -4);
        Check.due("unknown comes before full", x.seen(9, 1), -1);
        Check.due("outside comes before full", x.seen(0, 0), -2);
        Check.due("sights", x.told(7), 8);
        Check.due("forget()", x.forget(), 8);
        Check.due("forget() again", x.forget(), 0);
        Check.due("sights", x.told(7), 0);
        Check.due("seen(5, 1)", x.seen(5, 1), 1);
    }

    private static void fits(StreetString x, int count, int some, int all, int least) {
        Check.due("fit(0)", x.fit(0), count);
        Check.due("fit(1)", x.fit(1), some);
        Check.due("fit(2)", x.fit(2), all);
        Check.due("fit(3)", x.fit(3), least);
    }

    private static void fit() {
        StreetString x = Check.with("ab");
        fits(x, 57, 63, 0, 0);
        x.seen(5, 2);
        // f, and three others at most of five: 1 + 5 + 10 + 10
        fits(x, 26, 63, 32, 32);
        x.seen(4, 12);
        // e hears from the top to f, or from a to the end; f is there
        fits(x, 1, 32, 32, 32);
        x.seen(4, 12);
        fits(x, 1, 32, 32, 32);
        x.seen(4, 10);
        fits(x, 0, 0, 0, -6);
        x.forget();
        x.seen(0, 10);
        // top to e with f or not (e, ef), or a to f
        fits(x, 3, 49, 0, 16);
        x.seen(5, 2);
        fits(x, 2, 49, 32, 33);
        Check.due("fit(4)", x.fit(4), -2);
        Check.due("fit(-1)", x.fit(-1), -2);
        x.windows(2);
        fits(x, 3, 3, 0, 0);
        x.windows(3);
        fits(x, 4, 7, 0, 0);
    }

    private static void fitByDamp() {
        StreetString x = new StreetString();
        x.seen(3, 14);
        fits(x, 1, 0, 0, 0);
        Check.play(x, "++");
        // the end is two feet lower now: a to the end
        fits(x, 1, 1, 1, 1);
        x.gap(0, 4);
        // the first hook at 4, the last at 14, and 18 in all: a to the end, or the top to f
        fits(x, 2, 33, 0, 1);
        Check.play(x, "--");
        // 16 in all: only the top to f
        fits(x, 1, 32, 32, 32);
    }

    private static void ask() {
        StreetString x = new StreetString();
        x.windows(2);
        // none: 6 6; a: 4 4; b: 4 2
        Check.due("ask(0)", x.ask(0), 1);
        Check.due("ask(1)", x.ask(1), 1);
        x.seen(1, 4);
        Check.due("one is left to ask", x.ask(0), 0);
        Check.due("one fits", x.ask(1), 1);
        x.forget();
        x.seen(0, 4);
        Check.due("the other is asked", x.ask(0), 1);
        Check.due("one of two is left", x.ask(1), 1);
        x.forget();
        x.seen(0, 5);
        Check.due("nothing fits", x.ask(0), -6);
        Check.due("nothing fits", x.ask(1), -6);
        Check.due("ask(2)", x.ask(2), -2);
        Check.due("ask(-1)", x.ask(-1), -2);
        x.windows(3);
        // hooks at 2, 4, 6, the end at 8; none: 8 8 8; a: 6 6 6; b: 4 4 4; c: 6 6 2
        // the first can not tell a from c, nor can the second; the third tells all
        Check.due("the third tells all", x.ask(0), 2);
        Check.due("one is left", x.ask(1), 1);
        x.gap(0, 1);
        // hooks at 1, 3, 5, the end at 7; none: 7; a: 6; b: 3 4 4; c: 5 5 2: all tell all
        Check.due("the least of as good ones", x.ask(0), 0);
        x.seen(0, 6);
        Check.due("the least that was not seen", x.ask(0), 1);
    }

    private static void askWhenAllAreSeen() {
        StreetString x = new StreetString();
        x.windows(3);
        x.seen(0, 8);
        x.seen(2, 8);
        Check.due("the one between", x.ask(0), 1);
        Check.due("one is left", x.ask(1), 1);
        x.seen(1, 8);
        Check.due("all are seen", x.ask(0), -6);
        Check.due("all are seen", x.ask(1), -6);
        Check.due("it fits", x.fit(0), 1);
    }
}
