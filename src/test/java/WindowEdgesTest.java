/** The edges that the document names for promises 1 to 7, a sentence a script. */
public final class WindowEdgesTest {
    public static void main(String[] args) {
        newObject();
        windowsTaken();
        windowsAsAtFirst();
        gap();
        set();
        say();
        wipe();
        faultOfAnEvening();
        faultOfATune();
        faultOfAFullPad();
        lastCall();
        Check.end();
    }

    private static void newObject() {
        Script.run("1: six windows, no fingers; all that stands as at first", """
            told 0 : 0
            told 1 : 6
            told 2 : 2
            told 3 : 4
            told 4 : 1
            told 5 : 0
            told 6 : 0
            told 7 : 0
            told 10 : 2
            told 15 : 2
            hears 0 : 14
            hears 5 : 14
            wipe : 0
            forget : 0
            teas : 0
            fit 0 : 57
            done : 0
            restore 0 : STATE
            restore 1 : STATE
            """);
    }

    private static void windowsTaken() {
        Script.run("2: n 2 to 10", """
            windows 1 : OUTSIDE
            windows 2 : 6
            told 1 : 2
            windows 1 : OUTSIDE
            windows 0 : OUTSIDE
            windows -1 : OUTSIDE
            windows -2 : OUTSIDE
            windows MIN : OUTSIDE
            told 1 : 2
            windows 10 : 2
            told 1 : 10
            windows 11 : OUTSIDE
            windows 16 : OUTSIDE
            windows 34 : OUTSIDE
            windows 258 : OUTSIDE
            windows 65538 : OUTSIDE
            windows MAX : OUTSIDE
            told 1 : 10
            windows 3 : 10
            windows 9 : 3
            windows 6 : 9
            """);
        Script.run("2: a refused n changes nothing, whatever there is", """
            windows 5
            gap 4 9
            set 0 7
            set 1 3
            set 2 0
            play +++bd
            seen 2 8
            seen 4 8
            borrow 4 0 9
            image 0
            play c
            borrow 1 2 3
            image 1
            play d-
            tell ab.
            windows 1 : OUTSIDE
            windows 11 : OUTSIDE
            windows MAX : OUTSIDE
            windows MIN : OUTSIDE
            told 0 : 3
            told 1 : 5
            told 5 : 2
            told 6 : 6
            """);
    }

    private static void windowsAsAtFirst() {
        String all = """
            windows 10
            gap 0 1
            gap 9 9
            set 0 9
            set 1 99
            set 2 9
            play +++++++++aj
            seen 9 3
            seen 8 200
            borrow 9 0 9
            borrow 0 5 1
            image 0
            play b
            image 1
            tell c+
            """;
        String first = """
            told 0 : 2
            told 2 : 2
            told 3 : 99
            told 4 : 9
            told 5 : 0
            told 6 : 0
            told 7 : 0
            told 10 : 2
            teas : 0
            """;
        Script.run("2: all is as at first but LIMIT, RENT, the PAD, by fewer", all + "windows 2 : 10\n" + first + """
            told 11 : 2
            told 12 : OUTSIDE
            told 19 : OUTSIDE
            hears 1 : 6
            hears 2 : UNKNOWN
            fault 0 : 0
            fit 0 : 3
            borrow 0 1 1 : 1001
            """);
        Script.run("2: by as many again", all + "windows 10 : 10\n" + first + """
            told 19 : 2
            hears 9 : 22
            fault 0 : NONE
            fit 0 : 1013
            borrow 9 0 1 : 1001
            borrow 0 5 1 : 1000
            """);
        Script.run("2: nothing of a window that was gone comes back", all + "windows 2\nwindows 10 : 2\n" + first + """
            told 19 : 2
            hears 9 : 22
            borrow 9 0 1 : 1001
            """);
        Script.run("2: IMAGES stay", all + """
            windows 2 : 10
            restore 0 : 1
            told 0 : 2
            told 1 : 10
            told 2 : 9
            told 5 : 9
            told 6 : 513
            told 7 : 2
            told 10 : 1
            told 19 : 9
            borrow 9 0 1 : 1010
            restore 1 : 1
            told 6 : 515
            """);
        Script.run("2: what was not kept is not kept by windows", """
            windows 7 : 6
            restore 0 : STATE
            image 1 : 1
            windows 8 : 7
            restore 0 : STATE
            restore 1 : 1
            told 1 : 7
            """);
    }

    private static void gap() {
        Script.run("3: GAP 1 to 9, the first and the last WINDOW", """
            gap 0 0 : OUTSIDE
            gap 0 1 : 2
            gap 0 0 : OUTSIDE
            told 10 : 1
            gap 0 9 : 1
            gap 0 10 : OUTSIDE
            told 10 : 9
            gap 0 -1 : OUTSIDE
            gap 0 257 : OUTSIDE
            gap 0 MIN : OUTSIDE
            gap 0 MAX : OUTSIDE
            gap 5 9 : 2
            gap 5 10 : OUTSIDE
            gap 5 1 : 9
            gap 5 0 : OUTSIDE
            told 15 : 1
            told 11 : 2
            hears 0 : 20
            """);
        Script.run("3: UNKNOWN, also where the feet are OUTSIDE", """
            gap -1 2 : UNKNOWN
            gap 6 2 : UNKNOWN
            gap 9 2 : UNKNOWN
            gap 32 2 : UNKNOWN
            gap MIN 2 : UNKNOWN
            gap MAX 2 : UNKNOWN
            gap -1 0 : UNKNOWN
            gap 6 10 : UNKNOWN
            gap MIN MIN : UNKNOWN
            gap MAX MAX : UNKNOWN
            windows 2
            gap 2 5 : UNKNOWN
            gap 1 5 : 2
            windows 10
            gap 9 5 : 2
            gap 10 5 : UNKNOWN
            """);
    }

    private static void set() {
        Script.run("4: END 1 to 9", """
            set 0 0 : OUTSIDE
            set 0 1 : 2
            set 0 0 : OUTSIDE
            set 0 -1 : OUTSIDE
            told 2 : 1
            hears 5 : 13
            set 0 9 : 1
            set 0 10 : OUTSIDE
            set 0 MAX : OUTSIDE
            set 0 MIN : OUTSIDE
            told 2 : 9
            hears 5 : 21
            told 3 : 4
            told 4 : 1
            """);
        Script.run("4: LIMIT 1 to 99", """
            set 1 0 : OUTSIDE
            set 1 1 : 4
            set 1 0 : OUTSIDE
            set 1 -1 : OUTSIDE
            told 3 : 1
            set 1 99 : 1
            set 1 100 : OUTSIDE
            set 1 MAX : OUTSIDE
            set 1 MIN : OUTSIDE
            told 3 : 99
            told 2 : 2
            told 4 : 1
            """);
        Script.run("4: RENT 0 to 9", """
            set 2 -1 : OUTSIDE
            set 2 0 : 1
            set 2 -1 : OUTSIDE
            told 4 : 0
            set 2 9 : 0
            set 2 10 : OUTSIDE
            set 2 MAX : OUTSIDE
            set 2 MIN : OUTSIDE
            told 4 : 9
            told 2 : 2
            told 3 : 4
            """);
        Script.run("4: which 0 to 2", """
            set -1 2 : OUTSIDE
            set 3 2 : OUTSIDE
            set -1 0 : OUTSIDE
            set 3 100 : OUTSIDE
            set MIN 2 : OUTSIDE
            set MAX 2 : OUTSIDE
            """);
    }

    private static void say() {
        Script.run("5: codes 33 to 126", """
            say 32 : OUTSIDE
            say 33 : 1
            say 126 : 2
            say 127 : OUTSIDE
            say 0 : OUTSIDE
            say -1 : OUTSIDE
            say 353 : OUTSIDE
            say 65633 : OUTSIDE
            say MIN : OUTSIDE
            say MAX : OUTSIDE
            told 0 : 2
            """);
        Script.run("5: 60 signs at most", """
            times 59 say '.'
            told 0 : 59
            say 32 : OUTSIDE
            say '.' : 60
            say '.' : FULL
            say 33 : FULL
            say 126 : FULL
            told 0 : 60
            """);
        Script.run("5: OUTSIDE comes before FULL", """
            fill .
            say 32 : OUTSIDE
            say 127 : OUTSIDE
            say MAX : OUTSIDE
            say 46 : FULL
            clashed 1 : 0
            done : 60
            say 46 : 1
            """);
    }

    private static void wipe() {
        Script.run("6: an empty and a full PAD", """
            wipe : 0
            wipe : 0
            say 'a' : 1
            wipe : 1
            fill ab
            wipe : 60
            told 0 : 0
            wipe : 0
            say '-' : 1
            judge 1 : 2
            """);
        Script.run("6: nothing else goes", """
            play ab+
            seen 2 3
            tell cd
            wipe : 2
            told 5 : 1
            told 6 : 3
            told 7 : 1
            """);
    }

    private static void faultOfAnEvening() {
        Script.run("7: NONE of an empty EVENING, how 0 to 1", """
            fault 0 : NONE
            fault -1 : OUTSIDE
            fault 2 : OUTSIDE
            fault MIN : OUTSIDE
            fault MAX : OUTSIDE
            fill a
            fault -1 : OUTSIDE
            fault 2 : OUTSIDE
            """);
        Script.run("7: the letter of the last WINDOW, and the next", """
            tell af
            fault 0 : NONE
            tell afg
            fault 0 : 2
            windows 7
            fault 0 : NONE
            windows 2
            fault 0 : 1
            tell ab
            fault 0 : NONE
            tell abc
            fault 0 : 2
            windows 10
            tell aj
            fault 0 : NONE
            tell k
            fault 0 : 0
            tell .z
            fault 0 : 1
            """);
        Script.run("7: the signs beside those that can stand", """
            tell +-.a
            fault 0 : NONE
            tell *
            fault 0 : 0
            tell +,
            fault 0 : 1
            tell -./
            fault 0 : 2
            tell `
            fault 0 : 0
            tell !
            fault 0 : 0
            tell ~
            fault 0 : 0
            tell A
            fault 0 : 0
            tell a1
            fault 0 : 1
            """);
        Script.run("7: the first of many, and not an ACT that can not be", """
            tell -++abcdef
            fault 0 : NONE
            tell -g!
            fault 0 : 1
            """);
    }

    private static void faultOfATune() {
        Script.run("7: the number of signs, if it has none or one digit is left", """
            fault 1 : 0
            tell 0
            fault 1 : 1
            tell 2
            fault 1 : 1
            tell 012
            fault 1 : 3
            tell 01201
            fault 1 : 5
            """);
        Script.run("7: LENGTHS 01 to 20", """
            tell 00
            fault 1 : 1
            tell 01
            fault 1 : NONE
            tell 09
            fault 1 : NONE
            tell 10
            fault 1 : NONE
            tell 19
            fault 1 : NONE
            tell 20
            fault 1 : NONE
            tell 21
            fault 1 : 1
            tell 29
            fault 1 : 1
            tell 30
            fault 1 : 0
            tell 99
            fault 1 : 0
            tell 3
            fault 1 : 0
            """);
        Script.run("7: the first sign that can not stand there, behind others", """
            tell 0100
            fault 1 : 3
            tell 2021
            fault 1 : 3
            tell 2030
            fault 1 : 2
            tell 203
            fault 1 : 2
            tell 0020
            fault 1 : 1
            tell 0/
            fault 1 : 1
            tell 0:
            fault 1 : 1
            tell /1
            fault 1 : 0
            tell :1
            fault 1 : 0
            tell 01a
            fault 1 : 2
            tell .
            fault 1 : 0
            """);
    }

    private static void faultOfAFullPad() {
        Script.run("7: an EVENING of 60 signs", """
            fill a.
            fault 0 : NONE
            fault 1 : 0
            wipe
            times 59 say '.'
            say '1' : 60
            fault 0 : 59
            """);
        Script.run("7: a TUNE of 30 LENGTHS, and one of 59 signs", """
            fill 20
            fault 1 : NONE
            fault 0 : 0
            wipe
            times 59 say '1'
            fault 1 : 59
            say ':' : 60
            fault 1 : 59
            """);
        Script.run("7: 00 and 21 at the very end", """
            times 58 say '1'
            fault 1 : NONE
            say '0' : 59
            fault 1 : 59
            say '0' : 60
            fault 1 : 59
            wipe
            times 58 say '1'
            say '2' : 59
            say '1' : 60
            fault 1 : 59
            """);
    }

    /** An object is used for at most 512 calls: the last one is as good as the first. */
    private static void lastCall() {
        StreetString x = new StreetString();
        for (int call = 1; call < 511; call += 2) {
            Check.due("call " + call + ", say", x.say('c'), 1);
            Check.due("call " + (call + 1) + ", wipe", x.wipe(), 1);
        }
        Check.due("call 511, say", x.say('c'), 1);
        Check.due("call 512, behind", x.behind(0), 6);
        StreetString y = new StreetString();
        for (int call = 1; call <= 512; call++) {
            Check.due("call " + call + ", say", y.say('c'), call <= 60 ? call : -4);
        }
        StreetString z = new StreetString();
        for (int call = 1; call <= 512; call++) {
            Check.due("call " + call + ", borrow", z.borrow(3, 4, 9), call <= 111 ? 1000 + 9 * call : -3);
        }
    }
}
