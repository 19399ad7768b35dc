/** Promises 8 to 14: judge, done, hears, behind, clashed, interval, heard. */
public final class EveningsTest {
    public static void main(String[] args) {
        judge();
        fingersThatThereMayBe();
        done();
        hearsAndBehind();
        clashed();
        interval();
        heard();
        Check.end();
    }

    private static void judged(StreetString x, String text, int act, int why) {
        Check.tell(x, text);
        Check.due("judge(0) of " + text, x.judge(0), act);
        Check.due("judge(1) of " + text, x.judge(1), why);
        boolean can = why == -6;
        Check.due("behind of " + text, x.behind(0) == -5 ? 1 : 0, can ? 0 : 1);
        Check.due("clashed of " + text, x.clashed(1) == -5 ? 1 : 0, can ? 0 : 1);
        if (!can) {
            Check.due("done of " + text, x.done(), -5);
            Check.due("signs stay", x.told(0), text.length());
        }
    }

    private static void judge() {
        StreetString x = new StreetString();
        judged(x, "", -6, -6);
        judged(x, ".", -6, -6);
        judged(x, "-", 0, 2);
        judged(x, "..-", 2, 2);
        judged(x, "+--", 2, 2);
        judged(x, "+++++++++", -6, -6);
        judged(x, "++++++++++", 9, 1);
        judged(x, "+++++++++-++", 11, 1);
        judged(x, "abcd", -6, -6);
        judged(x, "abcde", 4, 3);
        judged(x, "abcdae", -6, -6);
        judged(x, "abcd.e-", 5, 3);
        judged(x, "-abcde", 0, 2);
        judged(x, "abcde-", 4, 3);
        judged(x, "abcddd", -6, -6);
        Check.due("judge(2)", x.judge(2), -2);
        Check.due("judge(-1)", x.judge(-1), -2);
        Check.tell(x, "-g");
        Check.due("a fault behind an act that can not be", x.judge(0), -5);
        Check.due("likewise why", x.judge(1), -5);
        Check.due("outside comes before no", x.judge(7), -2);
        Check.due("nothing was done", x.told(6), 0);
        Check.due("no damp either", x.told(5), 0);
        Check.play(x, "ab++");
        judged(x, "cd", -6, -6);
        judged(x, "cde", 2, 3);
        judged(x, "a---", 3, 2);
    }

    private static void fingersThatThereMayBe() {
        String letters = "abcdefghij";
        for (int n = 2; n <= 10; n++) {
            StreetString x = new StreetString();
            x.windows(n);
            int most = n == 2 ? 1 : n - 2;
            judged(x, letters.substring(0, most), -6, -6);
            judged(x, letters.substring(0, most + 1), most, 3);
            Check.due("still no fingers", x.told(6), 0);
        }
    }

    private static void done() {
        StreetString x = new StreetString();
        Check.due("an empty evening", x.done(), 0);
        Check.play(x, "a.c.+");
        Check.due("fingers", x.told(6), 5);
        Check.due("damp", x.told(5), 1);
        Check.due("the pad is empty", x.told(0), 0);
        Check.play(x, "a-d++");
        Check.due("fingers", x.told(6), 12);
        Check.due("damp", x.told(5), 2);
        Check.tell(x, "b---");
        Check.due("an act that can not be", x.done(), -5);
        Check.due("fingers stay", x.told(6), 12);
        Check.due("damp stays", x.told(5), 2);
        Check.due("signs stay", x.told(0), 4);
        Check.tell(x, "bz");
        Check.due("a fault", x.done(), -5);
        Check.due("fingers stay", x.told(6), 12);
        Check.play(x, "............................................................");
        Check.due("minutes change nothing", x.told(6), 12);
    }

    private static void hearsAndBehind() {
        StreetString x = new StreetString();
        for (int w = 0; w < 6; w++) {
            x.gap(w, w + 1);
        }
        x.set(0, 7);
        // hooks at 1, 3, 6, 10, 15, 21; the end at 28
        Check.due("hears(0)", x.hears(0), 28);
        Check.tell(x, "be+");
        int[] later = {3, 12, 12, 12, 14, 14};
        for (int w = 0; w < 6; w++) {
            Check.due("hears " + w, x.hears(w), 28);
            Check.due("behind " + w, x.behind(w), later[w]);
        }
        Check.due("done", x.done(), 3);
        for (int w = 0; w < 6; w++) {
            Check.due("hears " + w, x.hears(w), later[w]);
            Check.due("behind nothing " + w, x.behind(w), later[w]);
        }
        Check.play(x, "af");
        int[] now = {2, 12, 12, 12, 6, 8};
        for (int w = 0; w < 6; w++) {
            Check.due("hears " + w, x.hears(w), now[w]);
        }
        Check.due("hears(6)", x.hears(6), -1);
        Check.due("hears(-1)", x.hears(-1), -1);
        Check.due("behind(6)", x.behind(6), -1);
        Check.tell(x, "!");
        Check.due("unknown comes before no", x.behind(-1), -1);
        Check.due("a fault", x.behind(0), -5);
        Check.tell(x, "cd");
        Check.due("too many fingers", x.behind(0), -5);
        x.windows(10);
        for (int w = 0; w < 10; w++) {
            x.gap(w, 9);
        }
        x.set(0, 9);
        Check.play(x, "+++++++++");
        Check.due("the longest of all", x.hears(9), 108);
    }

    private static void clashed() {
        StreetString x = new StreetString();
        Check.due("nothing is told", x.clashed(0), -6);
        Check.due("nothing is told", x.clashed(1), 0);
        // c: 6 and 8 (4/3); b: 4 and 10 (5/2)
        Check.tell(x, ".c..cb.c.cb");
        Check.due("first", x.clashed(0), 6);
        Check.due("how many", x.clashed(1), 1);
        x.set(1, 3);
        Check.due("first by a limit of 3", x.clashed(0), 2);
        // none; c, c (4/3 each); b (5/2); b and c: 4, 2, 8 (4/1)
        Check.due("how many by a limit of 3", x.clashed(1), 4);
        x.set(1, 5);
        Check.due("first by a limit of 5", x.clashed(0), -6);
        Check.due("how many by a limit of 5", x.clashed(1), 0);
        x.set(1, 1);
        // a alone: all hear 12
        Check.tell(x, "a.");
        Check.due("what nobody hears does not clash", x.clashed(0), -6);
        x.set(1, 4);
        Check.tell(x, "b");
        Check.due("no minute", x.clashed(1), 0);
        // the last alone: 12 and 2 (6/1)
        Check.tell(x, "f.f.");
        Check.due("the last window clashes with all above", x.clashed(0), 1);
        Check.due("how many", x.clashed(1), 1);
        Check.due("clashed(2)", x.clashed(2), -2);
        Check.tell(x, ".-");
        Check.due("an act that can not be", x.clashed(0), -5);
        Check.due("an act that can not be", x.clashed(1), -5);
        Check.due("outside comes before no", x.clashed(-1), -2);
        Check.tell(x, "..Z");
        Check.due("a fault", x.clashed(1), -5);
    }

    private static void interval() {
        StreetString x = Check.with("bd+");
        // hooks b at 4, d at 8; the end at 15: 4, 4, 4, 7
        Check.due("interval(0, 1, 0)", x.interval(0, 1, 0), 1);
        Check.due("interval(0, 5, 0)", x.interval(0, 5, 0), 7);
        Check.due("interval(0, 5, 1)", x.interval(0, 5, 1), 4);
        Check.due("interval(5, 0, 0)", x.interval(5, 0, 0), 7);
        Check.due("interval(5, 0, 1)", x.interval(5, 0, 1), 4);
        Check.lost("one window twice", x.interval(3, 3, 0), -1);
        Check.lost("no such window", x.interval(6, 0, 0), -1);
        Check.lost("no such other window", x.interval(0, -1, 0), -1);
        Check.lost("unknown comes first", x.interval(0, 6, 9), -1);
        Check.lost("no such part", x.interval(0, 1, 2), -2);
        Check.lost("no such part", x.interval(0, 1, -1), -2);
        Check.play(x, "-f");
        // 4, 4, 4, 4, 4, 2
        Check.due("interval(2, 5, 0)", x.interval(2, 5, 0), 2);
        Check.due("interval(2, 5, 1)", x.interval(2, 5, 1), 1);
    }

    private static void heard() {
        StreetString x = new StreetString();
        Check.due("lengths", x.heard(0), 1);
        Check.due("windows", x.heard(1), 6);
        Check.play(x, "a");
        Check.due("what nobody hears is no length", x.heard(0), 1);
        Check.due("windows", x.heard(1), 6);
        Check.play(x, "abd");
        // 4, 4, 4, 6: d at 8
        Check.due("lengths", x.heard(0), 2);
        Check.due("windows", x.heard(1), 3);
        x.set(0, 1);
        x.gap(5, 1);
        // 4, 4, 4, 4, 4, 4
        Check.due("one length of two pieces", x.heard(0), 1);
        Check.due("all hear the longest", x.heard(1), 6);
        Check.due("heard(2)", x.heard(2), -2);
        Check.due("heard(-1)", x.heard(-1), -2);
    }
}
