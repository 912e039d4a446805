import java.nio.charset.StandardCharsets;
import java.util.ArrayList;
import java.util.Arrays;
import java.util.List;
import java.util.Random;
import java.util.TreeMap;

/**
 * Companies as large as a text can tell, held against a second way to each answer: castings go player by player over
 * sets of parts (the class goes part by part), rehearsals hour by hour from the first pair on, colds over whole rows.
 */
public final class FullCompanyTest {
    private static final int NONE = -4, NO = -2;
    private static int wrongs = 0;
    private static long answers = 0;
    private static final TreeMap<String, Integer> SEEN = new TreeMap<>();

    public static void main(String[] args) {
        int companies = args.length > 0 ? Integer.parseInt(args[0]) : 60;
        for (int seed = 0; seed < companies && wrongs < 20; seed++) {
            new FullCompanyTest(seed).play();
        }
        // a test that never comes to one of these answers would not hold it
        for (String kind : new String[] {"fewest 0", "fewest 1", "fewest 2", "fewest -4", "ten scenes", "24 covers", "400 bytes"}) {
            if (!SEEN.containsKey(kind)) {
                wrongs++;
                System.out.println("never seen: " + kind);
            }
        }
        System.out.println(answers + " answers, " + wrongs + " wrong; " + SEEN);
        if (wrongs > 0) {
            System.exit(1);
        }
    }

    private final int seed;
    private final Random random;
    private final OnByThursday x = new OnByThursday();
    private final StringBuilder text = new StringBuilder();
    private int calls;

    private int players, parts;
    private final int[] height = new int[10], skills = new int[10], knows = new int[10];
    private final int[] size = new int[8], wants = new int[8], says = new int[8], owner = new int[8];
    private final boolean[] cuttable = new boolean[8];
    private final List<int[]> scenes = new ArrayList<>();
    private final int[][] hundredths = new int[10][10];
    private int covers, change, tailor = 1, forgets = 10, payNight = 100, payLines = 5;
    private boolean[] bearable;

    private int today;
    private int[][] said = new int[10][8];
    private int[] owed = new int[10];

    private FullCompanyTest(int seed) {
        this.seed = seed;
        random = new Random(7919L * seed + 1);
        Arrays.fill(owner, NONE);
    }

    private void due(String call, long got, long want) {
        answers++;
        calls++;
        if (calls == 513) {
            wrongs++;
            System.out.println("company " + seed + ": the test calls one object too often");
        }
        if (got != want) {
            wrongs++;
            System.out.println("company " + seed + " " + text + ": " + call + " answered " + got + ", due is " + want);
        }
    }

    private static void seen(String kind) {
        SEEN.merge(kind, 1, Integer::sum);
    }

    private int upTo(int n) {
        return random.nextInt(n + 1);
    }

    // ---- a company

    private void play() {
        int kind = seed % 4;
        if (kind == 0) {
            tellCrowd(10, 8, 24, 10);
        } else if (kind == 1) {
            tellCrowd(7 + upTo(3), 6 + upTo(2), 18 + upTo(6), upTo(4));
        } else if (kind == 2) {
            tellCrowd(4 + upTo(3), 2 + upTo(1), 24, 1 + upTo(2));
        } else {
            tellColds();
        }
        fillUp();
        lay();
        bearable = new boolean[1 << parts];
        for (int set = 0; set < bearable.length; set++) {
            bearable[set] = canBear(set);
        }
        if (kind == 3) {
            askColds(12);
            return;
        }
        askCastings();
        askCovers();
        askColds(3);
        for (int round = 0; round < 12; round++) {
            askDays();
        }
    }

    private void tellPlayer(int tall, int can) {
        text.append("a" + tall + "," + can + ";");
        height[players] = tall;
        skills[players++] = can;
    }

    private void tellPart(int fits, int want, int n, int c) {
        text.append("p" + fits + "," + want + "," + n + "," + c + ";");
        size[parts] = fits;
        wants[parts] = want;
        says[parts] = n;
        cuttable[parts++] = c == 1;
    }

    private void tellCrowd(int np, int ni, int nk, int nc) {
        boolean skilled = random.nextInt(3) == 0;
        for (int p = 0; p < np; p++) tellPlayer(upTo(9) * (1 + upTo(6)), skilled ? 7 - upTo(1) * (1 << upTo(2)) : 0);
        for (int i = 0; i < ni; i++) {
            tellPart(upTo(9), skilled && upTo(2) == 0 ? 1 << upTo(2) : 0, 1 + upTo(upTo(3) == 0 ? 998 : 98 + 100 * upTo(4)), upTo(1));
        }
        for (int s = 0; s < nc; s++) {
            int set = 1 << upTo(ni - 1) | (upTo(1) == 0 ? 1 << upTo(ni - 1) : 0) | (upTo(3) == 0 ? 1 << upTo(ni - 1) : 0);
            int lasts = 1 + upTo(8);
            text.append("c" + set + "," + lasts + ";");
            scenes.add(new int[] {set, lasts});
        }
        change = upTo(12);
        text.append("m" + change + ";");
        for (int i = 0; i < ni; i++) {
            if (upTo(9) == 0) continue;
            owner[i] = (i + upTo(1)) % np;
            text.append("o" + owner[i] + "," + i + ";");
        }
        int rowOfCovers = upTo(1);
        for (int k = 0; k < nk && text.length() <= 395; k++) {
            int i = rowOfCovers == 0 ? k % ni : upTo(ni - 1), p = upTo(np - 1);
            text.append("k" + p + "," + i + ";");
            knows[p] |= 1 << i;
            covers++;
        }
    }

    /** Nearly all of the text tells who gives a cold to whom. */
    private void tellColds() {
        for (int p = 0; p < 10; p++) tellPlayer(upTo(9), 0);
        tellPart(5, 0, 9, 0);
        tellPart(5, 0, 9, 0);
        owner[0] = upTo(9);
        owner[1] = upTo(9);
        text.append("o" + owner[0] + ",0;o" + owner[1] + ",1;");
        for (int k = 0; k < 4; k++) {
            int p = upTo(9);
            text.append("k" + p + "," + k % 2 + ";");
            knows[p] |= 1 << k % 2;
            covers++;
        }
        while (text.length() <= 391) tellCold();
    }

    private void tellCold() {
        int p = upTo(9), q = (p + 1 + upTo(8)) % 10;
        int c = upTo(12) == 0 ? 100 * upTo(1) : 1 + upTo(60);
        if (p >= players || q >= players) return;
        text.append("x" + p + "," + q + "," + c + ";");
        hundredths[p][q] = c;
        hundredths[q][p] = c;
    }

    private void fillUp() {
        if (text.length() <= 396) {
            tailor = upTo(9);
            text.append("t" + tailor + ";");
        }
        if (text.length() <= 395) {
            forgets = upTo(20);
            text.append("f" + forgets + ";");
        }
        if (text.length() <= 392) {
            payNight = upTo(999);
            payLines = upTo(99);
            text.append("w" + payNight + "," + payLines + ";");
        }
        for (int n = upTo(6); n > 0 && text.length() <= 391; n--) tellCold();
        padWithChange(400 - text.length());
    }

    /** A number has one to three figures: an m told once more can fill up the text to its last byte. */
    private void padWithChange(int left) {
        int figures = String.valueOf(change).length();
        if (left < 2 + figures || left > 5) return;
        text.append("m" + "0".repeat(left - 2 - figures) + change + ";");
    }

    private void lay() {
        byte[] bytes = text.toString().getBytes(StandardCharsets.ISO_8859_1);
        for (int at = 0; at < bytes.length; at += 8) {
            int n = Math.min(8, bytes.length - at);
            long v = 0;
            for (int b = 0; b < n; b++) v = v << 8 | bytes[at + b];
            due("write", x.write(n, v), at + n);
        }
        due("fault()", x.fault(), NONE);
        due("lay()", x.lay(), players);
        int[] want = {players, parts, scenes.size(), bytes.length, 0, 0, covers};
        for (int what = 0; what < 7; what++) due("count(" + what + ")", x.count(what), want[what]);
        if (scenes.size() == 10) seen("ten scenes");
        if (covers == 24) seen("24 covers");
        if (bytes.length == 400) seen("400 bytes");
    }

    // ---- a second way to each answer

    /** Whether one player can have all these parts: it goes from scene to scene with the last dress it wore. */
    private boolean canBear(int set) {
        int dress = -1, minutes = 0;
        for (int[] scene : scenes) {
            int on = scene[0] & set;
            if (Integer.bitCount(on) > 1) return false;
            if (on == 0) {
                minutes += scene[1];
                continue;
            }
            if (dress >= 0 && dress != on && minutes < change) return false;
            dress = on;
            minutes = 0;
        }
        return true;
    }

    private int may(int p) {
        int set = 0;
        for (int i = 0; i < parts; i++) {
            boolean told = owner[i] == p || (knows[p] >> i & 1) == 1;
            if (told && (wants[i] & skills[p]) == wants[i]) set |= 1 << i;
        }
        return set;
    }

    /** How many castings: for each set of parts in how many ways the players so far can have just these. */
    private long ways(int off, int cut) {
        long[] held = new long[1 << parts];
        held[cut] = 1;
        for (int p = 0; p < players; p++) {
            if ((off >> p & 1) == 1) continue;
            long[] next = new long[1 << parts];
            for (int before = 0; before < held.length; before++) {
                if (held[before] == 0) continue;
                int free = may(p) & ~before;
                for (int more = free; ; more = more - 1 & free) {
                    if (bearable[more]) next[before | more] += held[before];
                    if (more == 0) break;
                }
            }
            held = next;
        }
        return held[held.length - 1];
    }

    private boolean met(int off) {
        return ways(off, 0) > 0;
    }

    private int forgotten(int p, int i) {
        int rate = Math.max(0, 100 - forgets * (today - said[p][i]));
        return says[i] - says[i] * rate / 100;
    }

    private int trouble(int p, int i) {
        return forgotten(p, i) + (owner[i] == p ? 0 : 100 + tailor * Math.abs(height[p] - size[i]));
    }

    private static final long TEN_TO_8 = 100000000L;

    /** The players of the parts as eight figures behind the trouble: the least number is LEAST; -1 if there is none. */
    private long leastCode(int off, int cut) {
        long[] held = new long[1 << parts];
        Arrays.fill(held, -1);
        held[cut] = 0;
        for (int p = 0; p < players; p++) {
            if ((off >> p & 1) == 1) continue;
            long[] next = new long[1 << parts];
            Arrays.fill(next, -1);
            for (int before = 0; before < held.length; before++) {
                if (held[before] < 0) continue;
                int free = may(p) & ~before;
                for (int more = free; ; more = more - 1 & free) {
                    long code = held[before] + code(p, more);
                    int then = before | more;
                    if (bearable[more] && (next[then] < 0 || code < next[then])) next[then] = code;
                    if (more == 0) break;
                }
            }
            held = next;
        }
        return held[held.length - 1];
    }

    private long code(int p, int set) {
        long code = 0, figure = TEN_TO_8;
        for (int i = 0; i < parts; i++) {
            figure /= 10;
            if ((set >> i & 1) == 1) code += trouble(p, i) * TEN_TO_8 + p * figure;
        }
        return code;
    }

    private int playerIn(long code, int i) {
        long figure = TEN_TO_8 / 10;
        for (int n = 0; n < i; n++) figure /= 10;
        return (int) (code / figure % 10);
    }

    private int cutLines(int set) {
        int sum = 0;
        for (int i = 0; i < parts; i++) {
            if ((set >> i & 1) == 1) sum += says[i];
        }
        return sum;
    }

    private int cheapestCut(int off) {
        int best = NONE;
        for (int set = (1 << parts) - 1; set >= 0; set--) {
            boolean all = true;
            for (int i = 0; i < parts; i++) all &= (set >> i & 1) == 0 || cuttable[i];
            if (all && (best == NONE || cutLines(set) <= cutLines(best)) && ways(off, set) > 0) best = set;
        }
        return best;
    }

    /** Lines, hours, and then the pairs of REHEARSALS; for each number of hours the best set that takes just these. */
    private List<Integer> rehearsals(int hours) {
        List<int[]> pairs = new ArrayList<>();
        for (int p = 0; p < players; p++) {
            for (int i = 0; i < parts; i++) {
                if ((may(p) >> i & 1) == 1) pairs.add(new int[] {10 * p + i, (says[i] + 99) / 100, forgotten(p, i)});
            }
        }
        // the lines above 32 bits that are the pairs, the first pair the highest of these
        long[] best = new long[hours + 1];
        Arrays.fill(best, -1);
        best[0] = 0;
        for (int k = 0; k < pairs.size(); k++) {
            int[] pair = pairs.get(k);
            long worth = ((long) pair[2] << 32) + (1L << 31 - k);
            for (int h = hours; h >= pair[1]; h--) {
                if (best[h - pair[1]] >= 0) best[h] = Math.max(best[h], best[h - pair[1]] + worth);
            }
        }
        int takes = 0;
        for (int h = 1; h <= hours; h++) {
            if (best[h] >> 32 > best[takes] >> 32) takes = h;
        }
        List<Integer> found = new ArrayList<>(List.of((int) (best[takes] >> 32), takes));
        for (int k = 0; k < pairs.size(); k++) {
            if ((best[takes] >> 31 - k & 1) == 1) found.add(pairs.get(k)[0]);
        }
        return found;
    }

    /** In how many of a million each set of players has the cold. */
    private long[] colds(int had, int days) {
        long[] now = new long[1 << players];
        now[had] = 1000000;
        for (int d = 0; d < days; d++) {
            long[] behind = new long[now.length];
            for (int begun = 0; begun < now.length; begun++) {
                if (now[begun] > 0) {
                    long[] parted = parted(begun, now[begun]);
                    for (int set = 0; set < now.length; set++) behind[set] += parted[set];
                }
            }
            now = behind;
        }
        return now;
    }

    private long[] parted(int begun, long n) {
        long[] row = new long[1 << players];
        row[begun] = n;
        for (int q = 0; q < players; q++) {
            if ((begun >> q & 1) == 1) continue;
            long well = 1000000;
            for (int p = 0; p < players; p++) {
                if ((begun >> p & 1) == 1) well = well * (100 - hundredths[p][q]) / 100;
            }
            for (int set = 0; set < 1 << q + 1; set++) {
                int state = set | begun;
                if ((state >> q & 1) == 1 || set != (state & (1 << q + 1) - 1)) continue;
                long stay = row[state] * well / 1000000;
                row[state | 1 << q] = row[state] - stay;
                row[state] = stay;
            }
        }
        return row;
    }

    private List<Integer> weakSets(int k) {
        List<Integer> found = new ArrayList<>();
        for (int set = 0; set < 1 << players; set++) {
            if (Integer.bitCount(set) == k && !met(set)) found.add(set);
        }
        return found;
    }

    /** Covers as 10 player and part. */
    private List<Integer> coversLeft() {
        List<Integer> found = new ArrayList<>();
        for (int p = 0; p < players; p++) {
            for (int i = 0; i < parts; i++) {
                boolean skilled = (wants[i] & skills[p]) == wants[i];
                if (skilled && owner[i] != p && (knows[p] >> i & 1) == 0) found.add(10 * p + i);
            }
        }
        return found;
    }

    private void learn(int cover) {
        knows[cover / 10] ^= 1 << cover % 10;
    }

    /** A set that was weak with one cover is mostly weak with the next one, too: it is looked at first. */
    private boolean isNoneWeak(List<Integer> weak) {
        for (int w = 0; w < weak.size(); w++) {
            if (!met(weak.get(w))) {
                weak.add(0, weak.remove(w));
                return false;
            }
        }
        return true;
    }

    private int fewest() {
        List<Integer> weak = weakSets(2), left = coversLeft();
        if (weak.isEmpty()) return 0;
        int found = NONE;
        for (int c : left) {
            learn(c);
            boolean enough = isNoneWeak(weak);
            for (int d : left) {
                if (enough || found == 2 || d <= c) continue;
                learn(d);
                if (isNoneWeak(weak)) found = 2;
                learn(d);
            }
            learn(c);
            if (enough) return 1;
        }
        return found;
    }

    private boolean night(int off) {
        long code = leastCode(off, 0);
        if (code < 0) return false;
        int[] lines = new int[10];
        int on = 0;
        for (int i = 0; i < parts; i++) {
            int p = playerIn(code, i);
            on |= 1 << p;
            said[p][i] = today;
            if (owner[i] != p) lines[p] += says[i];
        }
        for (int p = 0; p < players; p++) {
            if ((on >> p & 1) == 1) owed[p] += payNight + payLines * lines[p] / 10;
        }
        today++;
        return true;
    }

    private int run(int n, int z, int mask) {
        int wasToday = today;
        int[] wasOwed = owed.clone();
        int[][] wasSaid = new int[10][];
        for (int p = 0; p < 10; p++) wasSaid[p] = said[p].clone();
        int played = 0;
        while (played < n && night((z + played) * 37 % 1024 & mask)) played++;
        today = wasToday;
        owed = wasOwed;
        said = wasSaid;
        return played;
    }

    // ---- the calls

    /** Mostly few are off. */
    private int someOff() {
        int off = 0;
        for (int n = upTo(3); n > 0; n--) off |= 1 << upTo(players - 1);
        return upTo(19) == 0 ? (1 << players) - 1 : off;
    }

    private int someCut() {
        return upTo(1) == 0 ? 0 : upTo((1 << parts) - 1) & upTo((1 << parts) - 1);
    }

    private void askCastings() {
        for (int p = 0; p < players; p++) due("player(" + p + ", 4)", x.player(p, 4), may(p));
        for (int i = 0; i < parts; i++) {
            for (int j = i + 1; j < parts; j++) {
                due("both(" + j + ", " + i + ")", x.both(j, i), bearable[1 << i | 1 << j] ? 1 : 0);
            }
        }
        for (int n = 0; n < 6; n++) {
            int off = someOff(), cut = someCut();
            due("ways(" + off + ", " + cut + ")", x.ways(off, cut), ways(off, cut));
        }
        for (int n = 0; n < 3; n++) {
            int off = someOff(), set = cheapestCut(off);
            due("cuts(" + off + ", 0)", x.cuts(off, 0), set);
            due("cuts(" + off + ", 1)", x.cuts(off, 1), set == NONE ? NONE : cutLines(set));
        }
    }

    private void askLeast(int off, int cut) {
        long code = leastCode(off, cut);
        int others = 0, lost = 0;
        String call = "least(" + off + ", " + cut + ", ";
        for (int i = 0; i < parts; i++) {
            boolean isCut = (cut >> i & 1) == 1;
            int p = code < 0 ? NONE : playerIn(code, i);
            due(call + i + ")", x.least(off, cut, i), isCut ? NO : p);
            if (isCut || p < 0) continue;
            lost += forgotten(p, i);
            others += owner[i] == p ? 0 : 1;
        }
        due(call + "-1)", x.least(off, cut, -1), code < 0 ? NONE : code / TEN_TO_8);
        due(call + "-2)", x.least(off, cut, -2), code < 0 ? NONE : others);
        due(call + "-3)", x.least(off, cut, -3), code < 0 ? NONE : lost);
    }

    private void askCovers() {
        for (int k = 1; k <= 2; k++) {
            List<Integer> weak = weakSets(k);
            due("weak(" + k + ", 0)", x.weak(k, 0), weak.size());
            due("weak(" + k + ", 1)", x.weak(k, 1), weak.isEmpty() ? NONE : weak.get(0));
            int best = NONE, then = NONE;
            for (int c : coversLeft()) {
                learn(c);
                int n = weakSets(k).size();
                learn(c);
                if (best == NONE || n < then) {
                    best = c;
                    then = n;
                }
            }
            due("engaged(" + k + ", 0)", x.engaged(k, 0), best);
            due("engaged(" + k + ", 1)", x.engaged(k, 1), then);
        }
        int fewest = fewest();
        due("fewest()", x.fewest(), fewest);
        seen("fewest " + fewest);
    }

    private void askColds(int times) {
        for (int n = 0; n < times; n++) {
            int had = upTo(9) == 0 ? upTo((1 << players) - 1) : 1 << upTo(players - 1), d = upTo(14);
            long[] rows = colds(had, d);
            long met = 0;
            int most = 0;
            long[] has = new long[10];
            for (int set = 0; set < rows.length; set++) {
                if (rows[set] > rows[most]) most = set;
                if (rows[set] > 0 && met(set)) met += rows[set];
                for (int p = 0; p < players; p++) has[p] += (set >> p & 1) * rows[set];
            }
            String call = "cold(" + had + ", " + d + ", ";
            for (int p = 0; p < players; p++) due(call + p + ")", x.cold(had, d, p), has[p]);
            due(call + "10)", x.cold(had, d, 10), met);
            due(call + "11)", x.cold(had, d, 11), most);
            due(call + "12)", x.cold(had, d, 12), rows[most]);
        }
    }

    /** Some days may go by, then there is a night, met or not. */
    private void askDays() {
        if (upTo(2) == 0) {
            int days = 1 + upTo(2);
            today += days;
            due("rest(" + days + ")", x.rest(days), today);
        }
        int off = someOff();
        long code = leastCode(off, 0);
        night(off);
        due("night(" + off + ")", x.night(off), code < 0 ? NONE : code / TEN_TO_8);
        int p = upTo(players - 1);
        due("owed(" + p + ")", x.owed(p), owed[p]);
        if (upTo(3) == 0) askLeast(someOff(), someCut());
        askRehearsals(upTo(99) / (1 + upTo(4)));
        int n = 1 + upTo(19), z = upTo(999), mask = someOff();
        due("run(" + n + ", " + z + ", " + mask + ")", x.run(n, z, mask), run(n, z, mask));
    }

    private void askRehearsals(int hours) {
        List<Integer> want = rehearsals(hours);
        String call = "rehearsals(" + hours + ", ";
        due(call + "-1)", x.rehearsals(hours, -1), want.get(0));
        due(call + "-2)", x.rehearsals(hours, -2), want.get(1));
        due(call + "-3)", x.rehearsals(hours, -3), want.size() - 2);
        int k = upTo(want.size() - 2);
        due(call + k + ")", x.rehearsals(hours, k), k + 2 < want.size() ? want.get(k + 2) : NONE);
    }
}
