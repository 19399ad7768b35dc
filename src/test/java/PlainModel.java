import java.math.BigInteger;
import java.util.ArrayDeque;
import java.util.ArrayList;
import java.util.Arrays;
import java.util.HashMap;
import java.util.HashSet;
import java.util.List;
import java.util.Map;
import java.util.Set;
import java.util.TreeMap;
import java.util.TreeSet;

/** The document said again, in the plainest way and not the quickest; it shares no code with the class. */
final class PlainModel {
    private static final int NONE = -6, UNKNOWN = -1, OUTSIDE = -2, STATE = -3, FULL = -4, NO = -5;
    private static final long LOST = -1000000000000000000L;

    /** All that an image keeps. */
    private static final class Alley {
        int n = 6, end = 2, limit = 4, rent = 1, damp = 0;
        List<Integer> gaps = new ArrayList<>();
        TreeSet<Integer> fingers = new TreeSet<>();
        List<int[]> sights = new ArrayList<>();
        List<int[]> loans = new ArrayList<>();

        Alley(int n) {
            this.n = n;
            for (int i = 0; i < n; i++) {
                gaps.add(2);
            }
        }

        Alley copy() {
            Alley c = new Alley(n);
            c.end = end;
            c.limit = limit;
            c.rent = rent;
            c.damp = damp;
            c.gaps = new ArrayList<>(gaps);
            c.fingers = new TreeSet<>(fingers);
            c.sights = new ArrayList<>(sights);
            c.loans = new ArrayList<>(loans);
            return c;
        }

        int most() {
            return n == 2 ? 1 : n - 2;
        }

        int hook(int w) {
            int feet = 0;
            for (int i = 0; i <= w; i++) {
                feet += gaps.get(i);
            }
            return feet;
        }

        int length(int w, TreeSet<Integer> some) {
            Integer above = some.floor(w);
            Integer below = some.higher(w);
            int from = above == null ? 0 : hook(above);
            int to = below == null ? hook(n - 1) + end + damp : hook(below);
            return to - from;
        }

        boolean clashes(TreeSet<Integer> some) {
            for (int i = 0; i < n; i++) {
                for (int j = 0; j < n; j++) {
                    int[] parts = interval(i, j, some);
                    if (parts[0] > limit || parts[1] > limit) {
                        return true;
                    }
                }
            }
            return false;
        }

        int[] interval(int i, int j, TreeSet<Integer> some) {
            int a = Math.max(length(i, some), length(j, some));
            int b = Math.min(length(i, some), length(j, some));
            int d = BigInteger.valueOf(a).gcd(BigInteger.valueOf(b)).intValue();
            return new int[] {a / d, b / d};
        }

        List<TreeSet<Integer>> allowed() {
            List<TreeSet<Integer>> all = new ArrayList<>();
            for (int bits = 0; bits < 1 << n; bits++) {
                TreeSet<Integer> some = ofBits(bits);
                if (some.size() <= most()) {
                    all.add(some);
                }
            }
            return all;
        }

        /** 0, or why it can not be. */
        int act(char sign) {
            if (sign == '+' && damp == 9) {
                return 1;
            }
            if (sign == '-' && damp == 0) {
                return 2;
            }
            if (sign == '+' || sign == '-') {
                damp += sign == '+' ? 1 : -1;
            } else if (sign != '.') {
                int w = sign - 'a';
                if (!fingers.remove(w)) {
                    if (fingers.size() + 1 > most()) {
                        return 3;
                    }
                    fingers.add(w);
                }
            }
            return 0;
        }

        int[] balances() {
            int[] owes = new int[n];
            for (int[] loan : loans) {
                owes[loan[0]] += loan[2];
                owes[loan[1]] -= loan[2];
            }
            return owes;
        }
    }

    private Alley now = new Alley(6);
    private final Alley[] images = new Alley[2];
    private String text = "";

    private static int bits(Set<Integer> some) {
        int sum = 0;
        for (int w : some) {
            sum += 1 << w;
        }
        return sum;
    }

    private static TreeSet<Integer> ofBits(int bits) {
        TreeSet<Integer> some = new TreeSet<>();
        for (int w = 0; w < 20; w++) {
            if ((bits & 1 << w) != 0) {
                some.add(w);
            }
        }
        return some;
    }

    private boolean no(int window) {
        return window < 0 || window >= now.n;
    }

    private boolean noPair(int window, int other) {
        return no(window) || no(other) || window == other;
    }

    private static boolean out(int v, int least, int most) {
        return v < least || v > most;
    }

    long call(String name, int[] a) {
        switch (name) {
            case "windows": return windows(a[0]);
            case "gap": return gap(a[0], a[1]);
            case "set": return set(a[0], a[1]);
            case "say": return say(a[0]);
            case "wipe": return wipe();
            case "fault": return out(a[0], 0, 1) ? OUTSIDE : a[0] == 0 ? faultOfEvening() : faultOfTune();
            case "judge": return judge(a[0]);
            case "done": return done();
            case "hears": return no(a[0]) ? UNKNOWN : now.length(a[0], now.fingers);
            case "behind": return behind(a[0]);
            case "clashed": return clashed(a[0]);
            case "interval": return interval(a[0], a[1], a[2]);
            case "heard": return heard(a[0]);
            case "stopped": return stopped(a[0], a[1], a[2]);
            case "friends": return friends(a[0], a[1], a[2], a[3], a[4]);
            case "changes": return changes(a[0], a[1]);
            case "shifts": return shifts(a[0], a[1]);
            case "seen": return seen(a[0], a[1]);
            case "forget": return forget();
            case "fit": return fit(a[0]);
            case "ask": return ask(a[0]);
            case "borrow": return borrow(a[0], a[1], a[2]);
            case "teas": return settle(now.balances());
            case "feet": return feet();
            case "hooks": return hooks(a[0], a[1], a[2]);
            case "turns": return turns(a[0]);
            case "slips": return slips(a[0], a[1], a[2], a[3]);
            case "calm": return calm(a[0], a[1]);
            case "year": return year(a[0], a[1], a[2]);
            case "image": return image(a[0]);
            case "restore": return restore(a[0]);
            case "told": return told(a[0]);
            default: throw new IllegalArgumentException(name);
        }
    }

    private int windows(int n) {
        if (out(n, 2, 10)) {
            return OUTSIDE;
        }
        Alley fresh = new Alley(n);
        fresh.limit = now.limit;
        fresh.rent = now.rent;
        int was = now.n;
        now = fresh;
        return was;
    }

    private int gap(int w, int feet) {
        return no(w) ? UNKNOWN : out(feet, 1, 9) ? OUTSIDE : now.gaps.set(w, feet);
    }

    private int set(int which, int v) {
        int was;
        if (which == 0 && !out(v, 1, 9)) {
            was = now.end;
            now.end = v;
        } else if (which == 1 && !out(v, 1, 99)) {
            was = now.limit;
            now.limit = v;
        } else if (which == 2 && !out(v, 0, 9)) {
            was = now.rent;
            now.rent = v;
        } else {
            was = OUTSIDE;
        }
        return was;
    }

    private int say(int sign) {
        if (out(sign, 33, 126)) {
            return OUTSIDE;
        }
        if (text.length() == 60) {
            return FULL;
        }
        text += (char) sign;
        return text.length();
    }

    private int wipe() {
        int was = text.length();
        text = "";
        return was;
    }

    private int faultOfEvening() {
        String may = "abcdefghij".substring(0, now.n) + "+-.";
        for (int i = 0; i < text.length(); i++) {
            if (may.indexOf(text.charAt(i)) < 0) {
                return i;
            }
        }
        return NONE;
    }

    private int faultOfTune() {
        // a sign can stand, if the text up to it is the beginning of some tune
        for (int i = 0; i < text.length(); i++) {
            String upTo = text.substring(0, i + 1);
            String whole = upTo.length() % 2 == 0 ? upTo : null;
            boolean stands = false;
            if (whole != null) {
                stands = whole.matches("(0[1-9]|1[0-9]|20)*");
            } else {
                stands = upTo.matches("(0[1-9]|1[0-9]|20)*[012]");
            }
            if (!stands) {
                return i;
            }
        }
        return text.matches("(0[1-9]|1[0-9]|20)+") ? NONE : text.length();
    }

    /** The act that can not be and why, or null. */
    private int[] judged(Alley trial) {
        for (int i = 0; i < text.length(); i++) {
            int why = trial.act(text.charAt(i));
            if (why != 0) {
                return new int[] {i, why};
            }
        }
        return null;
    }

    private int judge(int what) {
        if (out(what, 0, 1)) {
            return OUTSIDE;
        }
        if (faultOfEvening() != NONE) {
            return NO;
        }
        int[] found = judged(now.copy());
        return found == null ? NONE : found[what];
    }

    /** All as it is behind the evening, or null. */
    private Alley later() {
        Alley trial = now.copy();
        return faultOfEvening() != NONE || judged(trial) != null ? null : trial;
    }

    private int done() {
        Alley then = later();
        if (then == null) {
            return NO;
        }
        now = then;
        return wipe();
    }

    private int behind(int w) {
        if (no(w)) {
            return UNKNOWN;
        }
        Alley then = later();
        return then == null ? NO : then.length(w, then.fingers);
    }

    private int clashed(int what) {
        if (out(what, 0, 1)) {
            return OUTSIDE;
        }
        if (later() == null) {
            return NO;
        }
        Alley trial = now.copy();
        List<Integer> minutes = new ArrayList<>();
        for (int i = 0; i < text.length(); i++) {
            trial.act(text.charAt(i));
            if (text.charAt(i) == '.' && trial.clashes(trial.fingers)) {
                minutes.add(i);
            }
        }
        return what == 1 ? minutes.size() : minutes.isEmpty() ? NONE : minutes.get(0);
    }

    private long interval(int w, int o, int part) {
        return noPair(w, o) ? LOST + UNKNOWN : out(part, 0, 1) ? LOST + OUTSIDE : now.interval(w, o, now.fingers)[part];
    }

    private int heard(int what) {
        if (out(what, 0, 1)) {
            return OUTSIDE;
        }
        TreeMap<Integer, Integer> counts = new TreeMap<>();
        for (int w = 0; w < now.n; w++) {
            counts.merge(now.length(w, now.fingers), 1, Integer::sum);
        }
        return what == 0 ? counts.size() : counts.lastEntry().getValue();
    }

    private int fewest(List<TreeSet<Integer>> some, int what) {
        TreeSet<Integer> best = null;
        for (TreeSet<Integer> s : some) {
            if (best == null || s.size() < best.size() || (s.size() == best.size() && bits(s) < bits(best))) {
                best = s;
            }
        }
        return best == null ? NONE : what == 0 ? best.size() : bits(best);
    }

    private int stopped(int w, int v, int what) {
        if (no(w)) {
            return UNKNOWN;
        }
        if (out(v, 1, 200) || out(what, 0, 1)) {
            return OUTSIDE;
        }
        List<TreeSet<Integer>> some = now.allowed();
        some.removeIf(s -> now.length(w, s) != v);
        return fewest(some, what);
    }

    private int friends(int w, int v, int o, int u, int what) {
        if (noPair(w, o)) {
            return UNKNOWN;
        }
        if (out(v, 1, 200) || out(u, 1, 200) || out(what, 0, 1)) {
            return OUTSIDE;
        }
        List<TreeSet<Integer>> some = now.allowed();
        some.removeIf(s -> now.length(w, s) != v || now.length(o, s) != u);
        return fewest(some, what);
    }

    private int[] tune() {
        int[] tones = new int[text.length() / 2];
        for (int i = 0; i < tones.length; i++) {
            tones[i] = Integer.parseInt(text.substring(2 * i, 2 * i + 2));
        }
        return tones;
    }

    /** One finger at a time, never more than there may be, the next length whenever it is heard. */
    private int changes(int w, int what) {
        if (no(w)) {
            return UNKNOWN;
        }
        if (out(what, 0, 1)) {
            return OUTSIDE;
        }
        if (faultOfTune() != NONE) {
            return NO;
        }
        int[] tones = tune();
        int sets = 1 << now.n;
        int[] heard = new int[sets];
        for (int s = 0; s < sets; s++) {
            TreeSet<Integer> some = ofBits(s);
            heard[s] = some.size() > now.most() ? -1 : now.length(w, some);
        }
        int[][] far = new int[tones.length + 1][sets];
        for (int[] row : far) {
            Arrays.fill(row, Integer.MAX_VALUE);
        }
        ArrayDeque<int[]> open = new ArrayDeque<>();
        far[0][bits(now.fingers)] = 0;
        open.add(new int[] {0, bits(now.fingers), 0});
        while (!open.isEmpty()) {
            int[] at = open.pollFirst();
            if (far[at[0]][at[1]] < at[2]) {
                continue;
            }
            if (at[0] < tones.length && heard[at[1]] == tones[at[0]] && at[2] < far[at[0] + 1][at[1]]) {
                far[at[0] + 1][at[1]] = at[2];
                open.addFirst(new int[] {at[0] + 1, at[1], at[2]});
            }
            for (int i = 0; i < now.n && at[0] < tones.length; i++) {
                int next = at[1] ^ 1 << i;
                if (heard[next] >= 0 && at[2] + 1 < far[at[0]][next]) {
                    far[at[0]][next] = at[2] + 1;
                    open.addLast(new int[] {at[0], next, at[2] + 1});
                }
            }
        }
        int best = -1;
        for (int s = 0; s < sets; s++) {
            if (far[tones.length][s] < Integer.MAX_VALUE && (best < 0 || far[tones.length][s] < far[tones.length][best])) {
                best = s;
            }
        }
        return best < 0 ? NONE : what == 0 ? far[tones.length][best] : best;
    }

    private int shifts(int w, int o) {
        if (noPair(w, o)) {
            return UNKNOWN;
        }
        if (faultOfTune() != NONE) {
            return NO;
        }
        int[] tones = tune();
        Set<Integer> alone = new HashSet<>();
        Set<Integer> otherAlone = new HashSet<>();
        Set<List<Integer>> pairs = new HashSet<>();
        for (TreeSet<Integer> s : now.allowed()) {
            alone.add(now.length(w, s));
            otherAlone.add(now.length(o, s));
            pairs.add(List.of(now.length(w, s), now.length(o, s)));
        }
        int fitting = 0;
        for (int k = 0; k < tones.length; k++) {
            boolean can = true;
            for (int i = 0; i < k; i++) {
                can &= alone.contains(tones[i]);
            }
            for (int i = k; i < tones.length; i++) {
                can &= pairs.contains(List.of(tones[i], tones[i - k]));
            }
            for (int i = tones.length - k; i < tones.length; i++) {
                can &= otherAlone.contains(tones[i]);
            }
            fitting |= can ? 1 << k : 0;
        }
        return fitting;
    }

    private int seen(int w, int v) {
        if (no(w)) {
            return UNKNOWN;
        }
        if (out(v, 1, 200)) {
            return OUTSIDE;
        }
        if (now.sights.size() == 8) {
            return FULL;
        }
        now.sights.add(new int[] {w, v});
        return now.sights.size();
    }

    private int forget() {
        int was = now.sights.size();
        now.sights.clear();
        return was;
    }

    private List<TreeSet<Integer>> fitting() {
        List<TreeSet<Integer>> some = now.allowed();
        for (int[] sight : now.sights) {
            some.removeIf(s -> now.length(sight[0], s) != sight[1]);
        }
        return some;
    }

    private int fit(int what) {
        if (out(what, 0, 3)) {
            return OUTSIDE;
        }
        List<TreeSet<Integer>> some = fitting();
        if (what == 0) {
            return some.size();
        }
        if (some.isEmpty()) {
            return what == 3 ? NONE : 0;
        }
        if (what == 3) {
            int least = Integer.MAX_VALUE;
            for (TreeSet<Integer> s : some) {
                least = Math.min(least, bits(s));
            }
            return least;
        }
        TreeSet<Integer> told = new TreeSet<>(some.get(0));
        for (TreeSet<Integer> s : some) {
            if (what == 1) {
                told.addAll(s);
            } else {
                told.retainAll(s);
            }
        }
        return bits(told);
    }

    private int ask(int what) {
        if (out(what, 0, 1)) {
            return OUTSIDE;
        }
        int best = NONE;
        int fewest = NONE;
        List<TreeSet<Integer>> some = fitting();
        for (int w = 0; w < now.n && !some.isEmpty(); w++) {
            int window = w;
            if (now.sights.stream().anyMatch(s -> s[0] == window)) {
                continue;
            }
            Map<Integer, Integer> groups = new HashMap<>();
            for (TreeSet<Integer> s : some) {
                groups.merge(now.length(w, s), 1, Integer::sum);
            }
            int left = groups.values().stream().max(Integer::compare).get();
            if (best == NONE || left < fewest) {
                best = w;
                fewest = left;
            }
        }
        return what == 0 ? best : fewest;
    }

    private int borrow(int w, int o, int v) {
        if (noPair(w, o)) {
            return UNKNOWN;
        }
        if (out(v, 1, 9)) {
            return OUTSIDE;
        }
        now.loans.add(new int[] {w, o, v});
        int[] owes = now.balances();
        if (Math.abs(owes[w]) >= 1000 || Math.abs(owes[o]) >= 1000) {
            now.loans.remove(now.loans.size() - 1);
            return STATE;
        }
        return owes[w] + 1000;
    }

    /** The first who is not quit pays, or is paid, all by one of the others; each of them is tried. */
    private static int settle(int[] owes) {
        int first = 0;
        while (first < owes.length && owes[first] == 0) {
            first++;
        }
        if (first == owes.length) {
            return 0;
        }
        int best = Integer.MAX_VALUE;
        Set<Integer> tried = new HashSet<>();
        for (int i = first + 1; i < owes.length; i++) {
            if (Integer.signum(owes[i]) == -Integer.signum(owes[first]) && tried.add(owes[i])) {
                int[] then = owes.clone();
                then[i] += then[first];
                then[first] = 0;
                best = Math.min(best, 1 + settle(then));
                if (owes[i] == -owes[first]) {
                    break;
                }
            }
        }
        return best;
    }

    private int worth(int length) {
        return 10 * (length / 10) - now.rent * length;
    }

    private int feet() {
        TreeSet<Integer> who = new TreeSet<>();
        for (int w = 0; w < now.n; w++) {
            Alley trial = now.copy();
            if (trial.act((char) ('a' + w)) == 0 && worth(trial.length(w, trial.fingers)) > worth(now.length(w, now.fingers))) {
                who.add(w);
            }
        }
        return bits(who);
    }

    private int hooks(int f, int lengths, int what) {
        if (out(f, 2, 16) || out(what, 0, 1) || lengths < 0 || lengths >= 1 << 17 || lengths % 2 != 0) {
            return OUTSIDE;
        }
        int best = -1;
        for (int places = 0; places < 1 << f; places += 2) {
            if (Integer.bitCount(places) <= 6 && (best < 0 || Integer.bitCount(places) < Integer.bitCount(best)) && hasAll(f, lengths, places)) {
                best = places;
            }
        }
        return best < 0 ? NONE : what == 0 ? Integer.bitCount(best) : best;
    }

    private static boolean hasAll(int f, int lengths, int places) {
        int had = 0;
        int points = places | 1 | 1 << f;
        for (int i = 0; i <= f; i++) {
            for (int j = i + 1; j <= f; j++) {
                if ((points & 1 << i) != 0 && (points & 1 << j) != 0) {
                    had |= 1 << j - i;
                }
            }
        }
        return (lengths & ~had) == 0;
    }

    private boolean wins(TreeSet<Integer> some, Map<Integer, Boolean> known) {
        Boolean told = known.get(bits(some));
        if (told == null) {
            told = winner(some, known) != NONE;
            known.put(bits(some), told);
        }
        return told;
    }

    private int winner(TreeSet<Integer> some, Map<Integer, Boolean> known) {
        for (int w = 0; w < now.n; w++) {
            TreeSet<Integer> next = new TreeSet<>(some);
            if (next.add(w) && next.size() <= now.most() && !now.clashes(next) && !wins(next, known)) {
                return w;
            }
        }
        return NONE;
    }

    private int turns(int what) {
        if (out(what, 0, 1)) {
            return OUTSIDE;
        }
        int window = winner(now.fingers, new HashMap<>());
        return what == 1 ? window : window == NONE ? 1 : 0;
    }

    /** By whom it stays or slips, one after another. */
    private BigInteger parts(List<Integer> open, TreeSet<Integer> stay, int t, int w, int v) {
        if (open.isEmpty()) {
            boolean holds = w < 0 ? !now.clashes(stay) : now.length(w, stay) == v;
            return holds ? BigInteger.ONE : BigInteger.ZERO;
        }
        List<Integer> rest = open.subList(1, open.size());
        TreeSet<Integer> with = new TreeSet<>(stay);
        with.add(open.get(0));
        return parts(rest, stay, t, w, v).multiply(BigInteger.valueOf(t))
            .add(parts(rest, with, t, w, v).multiply(BigInteger.valueOf(10 - t)));
    }

    private long chance(int t, int part, int w, int v) {
        List<Integer> fingers = new ArrayList<>(now.fingers);
        BigInteger upper = parts(fingers, new TreeSet<>(), t, w, v);
        BigInteger lower = BigInteger.TEN.pow(fingers.size());
        BigInteger d = upper.gcd(lower);
        return (part == 0 ? upper : lower).divide(d).longValueExact();
    }

    private long slips(int w, int v, int t, int part) {
        if (no(w)) {
            return LOST + UNKNOWN;
        }
        return out(v, 1, 200) || out(t, 0, 10) || out(part, 0, 1) ? LOST + OUTSIDE : chance(t, part, w, v);
    }

    private long calm(int t, int part) {
        return out(t, 0, 10) || out(part, 0, 1) ? LOST + OUTSIDE : chance(t, part, -1, 0);
    }

    private int year(int seed, int m, int what) {
        if (out(seed, 0, 9999) || out(m, 1, 99) || out(what, 0, 2)) {
            return OUTSIDE;
        }
        Alley trial = now.copy();
        int clashes = 0;
        int sum = 0;
        long x = seed;
        for (int i = 0; i < m; i++) {
            x = (75 * x + 74) % 65537;
            char sign = x % 5 == 0 ? '+' : x % 5 == 1 ? '-' : (char) ('a' + x / 5 % now.n);
            trial.act(sign);
            clashes += trial.clashes(trial.fingers) ? 1 : 0;
            sum += trial.length(0, trial.fingers);
        }
        return what == 0 ? clashes : what == 1 ? sum : bits(trial.fingers);
    }

    private int image(int n) {
        if (out(n, 0, 1)) {
            return OUTSIDE;
        }
        images[n] = now.copy();
        return 1;
    }

    private int restore(int n) {
        if (out(n, 0, 1)) {
            return OUTSIDE;
        }
        if (images[n] == null) {
            return STATE;
        }
        now = images[n].copy();
        return 1;
    }

    private int told(int what) {
        int[] first = {text.length(), now.n, now.end, now.limit, now.rent, now.damp, bits(now.fingers), now.sights.size()};
        if (!out(what, 0, 7)) {
            return first[what];
        }
        return what < 10 || what - 10 >= now.n ? OUTSIDE : now.gaps.get(what - 10);
    }
}
