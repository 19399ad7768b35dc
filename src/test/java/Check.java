/** What the tests share: comparing an answer with the one that is due, and telling texts to the pad. */
final class Check {
    private static int calls = 0;
    private static int wrong = 0;

    private Check() {
    }

    static void due(String call, long got, long want) {
        calls++;
        if (got != want) {
            wrong++;
            System.out.println(call + " answered " + got + ", due is " + want);
        }
    }

    static void dueTrue(String what, boolean holds) {
        due(what, holds ? 1 : 0, 1);
    }

    static void lost(String call, long got, int refusal) {
        due(call, got, -1000000000000000000L + refusal);
    }

    /** The pad holds just this text afterwards. */
    static void tell(StreetString x, String text) {
        x.wipe();
        for (int i = 0; i < text.length(); i++) {
            due("say " + text.charAt(i), x.say(text.charAt(i)), i + 1);
        }
    }

    /** The text is an evening, and is done. */
    static void play(StreetString x, String text) {
        tell(x, text);
        due("done of " + text, x.done(), text.length());
    }

    static StreetString with(String fingers) {
        StreetString x = new StreetString();
        play(x, fingers);
        return x;
    }

    static void end() {
        System.out.println(wrong == 0 ? calls + " answers are as due" : wrong + " of " + calls + " answers are not as due");
        if (wrong != 0) {
            System.exit(1);
        }
    }
}
