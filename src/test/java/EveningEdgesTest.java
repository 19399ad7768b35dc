/** The edges that the document names for promises 8 to 14, a sentence a script. */
public final class EveningEdgesTest {
    public static void main(String[] args) {
        judgeRefused();
        judgeNone();
        dampAndFingers();
        fingersByWindows();
        doneEmptyAndFull();
        doneRefused();
        hears();
        behind();
        clashedRefused();
        clashedNoneAndFull();
        clashByLimit();
        interval();
        heard();
        Check.end();
    }

    private static void judgeRefused() {
        Script.run("8: what 0 to 1", """
            judge -1 : OUTSIDE
            judge 2 : OUTSIDE
            judge MIN : OUTSIDE
            judge MAX : OUTSIDE
            """);
        Script.run("8: NO where there is a FAULT, also behind an ACT that can not be; OUTSIDE comes before it", """
            play ab+
            tell --g
            judge 0 : NO
            judge 1 : NO
            judge -1 : OUTSIDE
            judge 2 : OUTSIDE
            tell g
            judge 0 : NO
            judge 1 : NO
            tell 0102
            judge 0 : NO
            times 56 say '.'
            judge 1 : NO
            """);
        Script.run("8: a FAULT of a TUNE is none of an EVENING", """
            tell a
            fault 1 : 0
            judge 0 : NONE
            """);
    }

    private static void judgeNone() {
        Script.run("8: NONE of an empty and of a full EVENING", """
            judge 0 : NONE
            judge 1 : NONE
            fill .
            judge 0 : NONE
            judge 1 : NONE
            wipe
            fill a
            judge 0 : NONE
            judge 1 : NONE
            """);
        Script.run("8: the first ACT and the last of 60", """
            tell -
            judge 0 : 0
            judge 1 : 2
            wipe
            times 59 say '.'
            say '-'
            judge 0 : 59
            judge 1 : 2
            told 5 : 0
            """);
    }

    private static void dampAndFingers() {
        Script.run("8: DAMP 9 is taken, one more can not be (1)", """
            play ++++++++
            tell +
            judge 0 : NONE
            judge 1 : NONE
            tell ++
            judge 0 : 1
            judge 1 : 1
            tell +-+-++
            judge 0 : 5
            judge 1 : 1
            play +
            told 5 : 9
            tell +
            judge 0 : 0
            judge 1 : 1
            done : NO
            behind 0 : NO
            clashed 0 : NO
            told 5 : 9
            """);
        Script.run("8: DAMP 0 is taken, one less can not be (2)", """
            play +
            tell -
            judge 0 : NONE
            tell --
            judge 0 : 1
            judge 1 : 2
            play -
            told 5 : 0
            tell -
            judge 0 : 0
            judge 1 : 2
            done : NO
            behind 5 : NO
            clashed 1 : NO
            told 5 : 0
            """);
        Script.run("8: the first ACT that can not be, of several", """
            tell .abcd.e-
            judge 0 : 6
            judge 1 : 3
            tell -abcde
            judge 0 : 0
            judge 1 : 2
            tell ++++++++++-abcde
            judge 0 : 9
            judge 1 : 1
            """);
        Script.run("8: a FINGER can be lifted by as many as there may be", """
            play abcd
            tell a
            judge 0 : NONE
            tell e
            judge 0 : 0
            judge 1 : 3
            tell ae
            judge 0 : NONE
            tell aef
            judge 0 : 2
            judge 1 : 3
            tell ea
            judge 0 : 0
            done : NO
            told 6 : 15
            """);
    }

    private static void fingersByWindows() {
        String letters = "abcdefghij";
        for (int n = 2; n <= 10; n++) {
            int most = n == 2 ? 1 : n - 2;
            String some = letters.substring(0, most);
            int last = 1 << n - 1;
            Script.run("1: as many FINGERS as there may be of " + n, "windows " + n + "\n"
                + "tell " + some + "\njudge 0 : NONE\njudge 1 : NONE\n"
                + "tell " + some + letters.charAt(n - 1) + "\njudge 0 : " + most + "\njudge 1 : 3\n"
                + "done : NO\nbehind 0 : NO\nclashed 0 : NO\ntold 6 : 0\n"
                + "play " + some + "\ntold 6 : " + ((1 << most) - 1) + "\n"
                + "tell " + letters.charAt(n - 1) + "\njudge 0 : 0\njudge 1 : 3\ndone : NO\n"
                + "tell " + letters.charAt(0) + letters.charAt(n - 1) + "\ndone : 2\n"
                + "told 6 : " + ((1 << most) - 2 | last) + "\n");
        }
    }

    private static void doneEmptyAndFull() {
        Script.run("9: an empty EVENING has no ACTS", """
            done : 0
            play ac+
            done : 0
            told 5 : 1
            told 6 : 5
            """);
        Script.run("9: a full one has 60, and the PAD is empty then", """
            fill ab
            done : 60
            told 0 : 0
            told 6 : 0
            times 59 say 'a'
            say '+'
            done : 60
            told 0 : 0
            told 5 : 1
            told 6 : 1
            say 'a' : 1
            """);
        Script.run("9: up to DAMP 9 and as many FINGERS as there may be, and back to none", """
            windows 10
            tell +++++++++abcdefgh
            done : 17
            told 5 : 9
            told 6 : 255
            tell ---------abcdefgh
            done : 17
            told 5 : 0
            told 6 : 0
            """);
    }

    private static void doneRefused() {
        Script.run("9: NO where there is a FAULT or an ACT that can not be; what is ahead of it is not done", """
            play bd++
            seen 2 3
            borrow 0 1 2
            image 0
            tell a+!
            done : NO
            told 0 : 3
            tell a+---.-
            done : NO
            told 0 : 7
            tell acef
            done : NO
            told 5 : 2
            told 6 : 10
            told 0 : 4
            wipe
            times 59 say '.'
            say '{'
            done : NO
            told 0 : 60
            tell .
            done : 1
            """);
    }

    private static void hears() {
        Script.run("10: UNKNOWN", """
            hears -1 : UNKNOWN
            hears 0 : 14
            hears 5 : 14
            hears 6 : UNKNOWN
            hears 9 : UNKNOWN
            hears 10 : UNKNOWN
            hears 32 : UNKNOWN
            hears MIN : UNKNOWN
            hears MAX : UNKNOWN
            windows 2
            hears 1 : 6
            hears 2 : UNKNOWN
            windows 10
            hears 9 : 22
            hears 10 : UNKNOWN
            """);
        Script.run("10: a FINGER at the WINDOW is above it, at the next one below it", """
            play c
            hears 1 : 6
            hears 2 : 8
            hears 3 : 8
            play d
            hears 2 : 2
            hears 3 : 6
            hears 4 : 6
            """);
        Script.run("10: FINGERS at the first and at the last", """
            play a
            hears 0 : 12
            hears 5 : 12
            play af
            hears 0 : 12
            hears 4 : 12
            hears 5 : 2
            play a
            hears 0 : 10
            hears 4 : 10
            hears 5 : 2
            """);
        StringBuilder longest = new StringBuilder("windows 10\n");
        for (int window = 0; window < 10; window++) {
            longest.append("gap ").append(window).append(" 9\n");
        }
        Script.run("10: the longest string of all", longest + """
            set 0 9
            hears 0 : 99
            play +++++++++
            hears 0 : 108
            hears 9 : 108
            play j
            hears 8 : 90
            hears 9 : 18
            """);
        Script.run("10: the shortest", """
            windows 2
            gap 0 1
            gap 1 1
            set 0 1
            hears 0 : 3
            play b
            hears 0 : 2
            hears 1 : 1
            play ba
            hears 0 : 2
            hears 1 : 2
            """);
    }

    private static void behind() {
        Script.run("11: UNKNOWN, also where it is NO", """
            behind -1 : UNKNOWN
            behind 6 : UNKNOWN
            behind MIN : UNKNOWN
            behind MAX : UNKNOWN
            tell g
            behind -1 : UNKNOWN
            behind 6 : UNKNOWN
            behind 0 : NO
            behind 5 : NO
            tell -
            behind 6 : UNKNOWN
            behind 0 : NO
            """);
        Script.run("11: of an empty EVENING what is heard now, of a full one what is heard at its end", """
            behind 0 : 14
            play c
            behind 0 : 6
            behind 5 : 8
            fill +-
            behind 5 : 8
            wipe
            times 59 say 'c'
            behind 0 : 14
            say 'c'
            behind 0 : 6
            told 6 : 4
            hears 0 : 6
            """);
        Script.run("11: NO by the last of 60, though all else can be", """
            times 59 say '.'
            behind 0 : 14
            say '-'
            behind 0 : NO
            """);
    }

    private static void clashedRefused() {
        Script.run("12: what 0 to 1; OUTSIDE comes before NO", """
            clashed -1 : OUTSIDE
            clashed 2 : OUTSIDE
            clashed MIN : OUTSIDE
            clashed MAX : OUTSIDE
            tell f.z
            clashed 0 : NO
            clashed 1 : NO
            clashed 2 : OUTSIDE
            clashed -1 : OUTSIDE
            tell f.-
            clashed 0 : NO
            clashed 1 : NO
            clashed 2 : OUTSIDE
            """);
    }

    private static void clashedNoneAndFull() {
        Script.run("12: NONE where no minute does, or there is none", """
            clashed 0 : NONE
            clashed 1 : 0
            tell .
            clashed 0 : NONE
            clashed 1 : 0
            tell f
            clashed 0 : NONE
            clashed 1 : 0
            fill f
            clashed 0 : NONE
            clashed 1 : 0
            wipe
            fill .
            clashed 0 : NONE
            clashed 1 : 0
            """);
        Script.run("12: the first ACT of all, and all of 60; the last of 60", """
            play f
            fill .
            clashed 0 : 0
            clashed 1 : 60
            play f
            times 58 say '.'
            say 'f'
            say '.'
            clashed 0 : 59
            clashed 1 : 1
            """);
    }

    private static void clashByLimit() {
        Script.run("1: a CLASH is above LIMIT, not at it", """
            tell f.
            set 1 6
            clashed 1 : 0
            set 1 5
            clashed 1 : 1
            set 1 7
            clashed 0 : NONE
            """);
        Script.run("1: by LIMIT 1 all must hear the same", """
            set 1 1
            tell .a.
            clashed 1 : 0
            tell .d.
            clashed 1 : 1
            tell ad.
            clashed 1 : 0
            """);
        StringBuilder longest = new StringBuilder("windows 10\n");
        for (int window = 0; window < 10; window++) {
            longest.append("gap ").append(window).append(window == 1 ? " 1\n" : " 9\n");
        }
        Script.run("1: 90 by 1, the widest INTERVAL of all", longest + """
            set 0 9
            play +++++++++ab
            interval 0 9 0 : 90
            interval 0 9 1 : 1
            tell .
            set 1 89
            clashed 0 : 0
            set 1 90
            clashed 0 : NONE
            set 1 99
            clashed 0 : NONE
            """);
        Script.run("1: in lowest terms, and the lower number never alone", """
            set 1 3
            tell bd.
            clashed 1 : 0
            tell c.
            clashed 1 : 1
            set 1 4
            clashed 1 : 0
            """);
        Script.run("1: some two of all WINDOWS, the first and the last too", """
            windows 2
            gap 0 9
            gap 1 9
            set 0 1
            set 1 17
            tell b.
            clashed 0 : 1
            set 1 18
            clashed 0 : NONE
            """);
    }

    private static void interval() {
        Script.run("13: UNKNOWN of either and of both in one, also where part is OUTSIDE", """
            interval -1 0 0 : LOST+UNKNOWN
            interval 6 0 0 : LOST+UNKNOWN
            interval 0 -1 0 : LOST+UNKNOWN
            interval 0 6 1 : LOST+UNKNOWN
            interval 0 0 0 : LOST+UNKNOWN
            interval 5 5 1 : LOST+UNKNOWN
            interval 6 6 0 : LOST+UNKNOWN
            interval -1 -1 0 : LOST+UNKNOWN
            interval MIN 0 0 : LOST+UNKNOWN
            interval 0 MAX 0 : LOST+UNKNOWN
            interval 0 0 2 : LOST+UNKNOWN
            interval 0 6 -1 : LOST+UNKNOWN
            interval 6 0 2 : LOST+UNKNOWN
            """);
        Script.run("13: part 0 to 1", """
            interval 0 5 -1 : LOST+OUTSIDE
            interval 0 5 0 : 1
            interval 0 5 1 : 1
            interval 0 5 2 : LOST+OUTSIDE
            interval 5 0 MIN : LOST+OUTSIDE
            interval 5 0 MAX : LOST+OUTSIDE
            """);
        Script.run("13: the longer by the shorter, whichever is told first, now and not behind", """
            play f
            tell f
            interval 0 5 0 : 6
            interval 0 5 1 : 1
            interval 5 0 0 : 6
            interval 5 0 1 : 1
            interval 0 4 0 : 1
            play ff+
            interval 0 5 0 : 4
            interval 0 5 1 : 1
            play +
            interval 5 4 0 : 3
            interval 5 4 1 : 1
            play +++
            interval 5 4 0 : 12
            interval 5 4 1 : 7
            """);
    }

    private static void heard() {
        Script.run("14: what 0 to 1", """
            heard -1 : OUTSIDE
            heard 0 : 1
            heard 1 : 6
            heard 2 : OUTSIDE
            heard MIN : OUTSIDE
            heard MAX : OUTSIDE
            """);
        Script.run("14: the least that can be: one LENGTH, one WINDOW", """
            windows 2
            heard 0 : 1
            heard 1 : 2
            play b
            heard 0 : 2
            heard 1 : 1
            set 0 4
            heard 0 : 1
            heard 1 : 2
            set 0 5
            heard 0 : 2
            heard 1 : 1
            """);
        Script.run("14: the most that can be: nine LENGTHS of ten WINDOWS", """
            windows 10
            gap 0 1
            gap 1 1
            gap 2 1
            gap 3 3
            gap 4 4
            gap 5 5
            gap 6 6
            gap 7 7
            gap 8 8
            gap 9 9
            play bcdefghi
            heard 0 : 9
            heard 1 : 2
            gap 9 6
            heard 0 : 8
            heard 1 : 3
            """);
    }
}
