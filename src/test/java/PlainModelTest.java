import java.nio.charset.StandardCharsets;
import java.util.ArrayList;
import java.util.Arrays;
import java.util.List;
import java.util.Map;
import java.util.Random;
import java.util.TreeMap;
import java.util.regex.Matcher;
import java.util.regex.Pattern;

/**
 * Random runs of calls, held against a second program that follows the document's words as plainly as it can:
 * all castings are written down whole and looked at scene by scene, all sets of rehearsals are tried.
 */
public final class PlainModelTest {
    private static final int BAD = -1, NO = -2, FULL = -3, NONE = -4;
    private static int wrongs = 0;
    private static long calls = 0;

    public static void main(String[] args) {
        int runs = args.length > 0 ? Integer.parseInt(args[0]) : 400;
        for (int seed = 0; seed < runs && wrongs < 20; seed++) {
            new Run(seed, false).play();
        }
        for (int seed = 0; seed < runs / 10 && wrongs < 20; seed++) {
            new Run(seed, true).play();
        }
        System.out.println(calls + " calls, " + wrongs + " wrong");
        if (wrongs > 0) {
            System.exit(1);
        }
    }

    /** The document, word by word. */
    private static final class Model {
        byte[] text = new byte[0];
        List<int[]> players = new ArrayList<>();
        List<int[]> parts = new ArrayList<>();
        List<int[]> scenes = new ArrayList<>();
        List<int[]> knows = new ArrayList<>();
        int[] own = new int[8];
        int[][] contagion = new int[10][10];
        int change = 0, tailor = 1, forgetting = 10, payNight = 100, payLines = 5;
        int today = 0;
        int[][] said = new int[10][8];
        int[] owed = new int[10];
        int[] told = new int[10];
        List<Object[]> kept = new ArrayList<>();
        /** With many players and parts a casting is given up as soon as a part of it can't be. */
        boolean early = false, oneIsEnough = false;
        boolean[] possible;

        Model() {
            Arrays.fill(own, NONE);
        }

        static Model first() {
            Model m = new Model();
            m.read("a50,0;p50,0,10,0;o0,0;".getBytes(StandardCharsets.ISO_8859_1));
            return m;
        }

        /** The place of the first fault. */
        int read(byte[] bytes) {
            String all = new String(bytes, StandardCharsets.ISO_8859_1);
            Matcher item = Pattern.compile("([a-z])(\\d{1,3}(?:,\\d{1,3})*);").matcher(all);
            int at = 0;
            while (at < all.length()) {
                item.region(at, all.length());
                if (!item.lookingAt()) {
                    return at;
                }
                int[] n = Arrays.stream(item.group(2).split(",")).mapToInt(Integer::parseInt).toArray();
                if (!tell(item.group(1), n)) {
                    return at;
                }
                at = item.end();
            }
            return NONE;
        }

        boolean in(int v, int low, int high) {
            return v >= low && v <= high;
        }

        boolean tell(String letter, int[] n) {
            String forms = "a2p4c2o2k2x3m1t1f1w2";
            int form = forms.indexOf(letter);
            if (form < 0 || forms.charAt(form + 1) - '0' != n.length) {
                return false;
            }
            int np = players.size(), ni = parts.size();
            if (letter.equals("a")) {
                if (!in(n[0], 0, 99) || !in(n[1], 0, 15) || np == 10) return false;
                players.add(n);
            } else if (letter.equals("p")) {
                if (!in(n[0], 0, 99) || !in(n[1], 0, 15) || !in(n[2], 1, 999) || !in(n[3], 0, 1) || ni == 8) return false;
                parts.add(n);
            } else if (letter.equals("c")) {
                if (!in(n[0], 1, 255) || n[0] >= 1 << ni || !in(n[1], 1, 99) || scenes.size() == 10) return false;
                scenes.add(n);
            } else if (letter.equals("o")) {
                if (n[0] >= np || n[1] >= ni) return false;
                own[n[1]] = n[0];
            } else if (letter.equals("k")) {
                if (n[0] >= np || n[1] >= ni || knows.size() == 24) return false;
                knows.add(n);
            } else if (letter.equals("x")) {
                if (n[0] >= np || n[1] >= np || n[0] == n[1] || !in(n[2], 0, 100)) return false;
                contagion[n[0]][n[1]] = n[2];
                contagion[n[1]][n[0]] = n[2];
            } else if (letter.equals("m")) {
                if (!in(n[0], 0, 99)) return false;
                change = n[0];
            } else if (letter.equals("t")) {
                if (!in(n[0], 0, 9)) return false;
                tailor = n[0];
            } else if (letter.equals("f")) {
                if (!in(n[0], 0, 99)) return false;
                forgetting = n[0];
            } else {
                if (!in(n[0], 0, 999) || !in(n[1], 0, 99)) return false;
                payNight = n[0];
                payLines = n[1];
            }
            return true;
        }

        boolean isPlayer(int p) { return p >= 0 && p < players.size(); }
        boolean isPart(int i) { return i >= 0 && i < parts.size(); }
        boolean arePlayers(int set) { return set >= 0 && set < 1 << players.size(); }
        boolean areParts(int set) { return set >= 0 && set < 1 << parts.size(); }

        boolean doesKnow(int p, int i) {
            for (int[] k : knows) {
                if (k[0] == p && k[1] == i) return true;
            }
            return false;
        }

        boolean hasSkills(int p, int i) {
            for (int bit = 1; bit < 16; bit *= 2) {
                if ((parts.get(i)[1] & bit) != 0 && (players.get(p)[1] & bit) == 0) return false;
            }
            return true;
        }

        boolean may(int p, int i) {
            return (own[i] == p || doesKnow(p, i)) && hasSkills(p, i);
        }

        /** A player with just these parts, seen from scene to scene. */
        boolean canHave(int set) {
            for (int s = 0; s < scenes.size(); s++) {
                int here = scenes.get(s)[0] & set;
                if (Integer.bitCount(here) > 1) return false;
                if (here == 0) continue;
                int between = 0;
                for (int t = s + 1; t < scenes.size(); t++) {
                    int there = scenes.get(t)[0] & set;
                    if (there != 0) {
                        if (there != here && between < change) return false;
                        break;
                    }
                    between += scenes.get(t)[1];
                }
            }
            return true;
        }

        /** All castings, in the order of the player of part 0, then 1, and so on. */
        List<int[]> castings(int off, int cut) {
            List<int[]> found = new ArrayList<>();
            int[] who = new int[parts.size()];
            Arrays.fill(who, NONE);
            possible = new boolean[1 << parts.size()];
            for (int set = 0; set < possible.length; set++) possible[set] = canHave(set);
            cast(0, off, cut, who, found);
            return found;
        }

        void cast(int i, int off, int cut, int[] who, List<int[]> found) {
            if (oneIsEnough && !found.isEmpty()) return;
            if (i == parts.size()) {
                for (int p = 0; p < players.size(); p++) {
                    if (!possible[partsOf(p, who)]) return;
                }
                found.add(who.clone());
                return;
            }
            if ((cut >> i & 1) == 1) {
                cast(i + 1, off, cut, who, found);
                return;
            }
            for (int p = 0; p < players.size(); p++) {
                if ((off >> p & 1) == 0 && may(p, i)) {
                    who[i] = p;
                    if (!early || possible[partsOf(p, who)]) cast(i + 1, off, cut, who, found);
                    who[i] = NONE;
                }
            }
        }

        int partsOf(int p, int[] who) {
            int set = 0;
            for (int i = 0; i < who.length; i++) {
                if (who[i] == p) set |= 1 << i;
            }
            return set;
        }

        boolean met(int off) {
            oneIsEnough = early;
            boolean any = !castings(off, 0).isEmpty();
            oneIsEnough = false;
            return any;
        }

        int keptLines(int p, int i) {
            int rate = 100 - forgetting * (today - said[p][i]);
            return rate <= 0 ? 0 : parts.get(i)[2] * rate / 100;
        }

        int troubleOf(int[] who) {
            int sum = 0;
            for (int i = 0; i < who.length; i++) {
                if (who[i] == NONE) continue;
                sum += parts.get(i)[2] - keptLines(who[i], i);
                if (own[i] != who[i]) sum += 100 + tailor * Math.abs(players.get(who[i])[0] - parts.get(i)[0]);
            }
            return sum;
        }

        int[] leastOf(int off, int cut) {
            int[] best = null;
            for (int[] who : castings(off, cut)) {
                if (best == null || troubleOf(who) < troubleOf(best)) best = who;
            }
            return best;
        }

        int lay() {
            Model m = new Model();
            if (m.read(text) != NONE || m.players.isEmpty() || m.parts.isEmpty()) return NO;
            players = m.players; parts = m.parts; scenes = m.scenes; knows = m.knows;
            own = m.own; contagion = m.contagion;
            change = m.change; tailor = m.tailor; forgetting = m.forgetting;
            payNight = m.payNight; payLines = m.payLines;
            today = 0; said = m.said; owed = m.owed; told = m.told; kept = m.kept;
            return players.size();
        }

        int player(int p, int what) {
            if (!isPlayer(p) || !in(what, 0, 4)) return BAD;
            if (what < 2) return players.get(p)[what];
            int set = 0;
            for (int i = 0; i < parts.size(); i++) {
                boolean yes = what == 2 ? own[i] == p : what == 3 ? doesKnow(p, i) : may(p, i);
                if (yes) set |= 1 << i;
            }
            return set;
        }

        int part(int i, int what) {
            if (!isPart(i) || !in(what, 0, 5)) return BAD;
            if (what < 4) return parts.get(i)[what];
            if (what == 5) return own[i];
            int set = 0;
            for (int s = 0; s < scenes.size(); s++) {
                if ((scenes.get(s)[0] >> i & 1) == 1) set |= 1 << s;
            }
            return set;
        }

        int both(int i, int j) {
            if (!isPart(i) || !isPart(j) || i == j) return BAD;
            return canHave(1 << i | 1 << j) ? 1 : 0;
        }

        long ways(int off, int cut) {
            return arePlayers(off) && areParts(cut) ? castings(off, cut).size() : 0;
        }

        int least(int off, int cut, int part) {
            if (!arePlayers(off) || !areParts(cut) || part < -3 || part >= parts.size()) return BAD;
            if (part >= 0 && (cut >> part & 1) == 1) return NO;
            int[] who = leastOf(off, cut);
            if (who == null) return NONE;
            if (part >= 0) return who[part];
            if (part == -1) return troubleOf(who);
            int others = 0, lost = 0;
            for (int i = 0; i < who.length; i++) {
                if (who[i] == NONE) continue;
                if (own[i] != who[i]) others++;
                lost += parts.get(i)[2] - keptLines(who[i], i);
            }
            return part == -2 ? others : lost;
        }

        int cuts(int off, int what) {
            if (!arePlayers(off) || !in(what, 0, 1)) return BAD;
            int best = NONE, bestLines = 0;
            for (int set = 0; set < 1 << parts.size(); set++) {
                int sum = 0;
                boolean all = true;
                for (int i = 0; i < parts.size(); i++) {
                    if ((set >> i & 1) == 1) {
                        sum += parts.get(i)[2];
                        all &= parts.get(i)[3] == 1;
                    }
                }
                if (all && (best == NONE || sum < bestLines) && !castings(off, set).isEmpty()) {
                    best = set;
                    bestLines = sum;
                }
            }
            return best == NONE ? NONE : what == 0 ? best : bestLines;
        }

        int lines(int p, int i) {
            if (!isPlayer(p) || !isPart(i)) return BAD;
            return may(p, i) ? keptLines(p, i) : NO;
        }

        int hours(int i) {
            return (parts.get(i)[2] + 99) / 100;
        }

        int rehearse(int p, int i) {
            if (!isPlayer(p) || !isPart(i)) return BAD;
            if (!may(p, i)) return NO;
            said[p][i] = today;
            return hours(i);
        }

        int rehearsals(int h, int what) {
            if (!in(h, 0, 99) || what < -3) return BAD;
            List<int[]> pairs = new ArrayList<>();
            for (int p = 0; p < players.size(); p++) {
                for (int i = 0; i < parts.size(); i++) {
                    if (may(p, i)) pairs.add(new int[] {p, i, hours(i), parts.get(i)[2] - keptLines(p, i)});
                }
            }
            List<int[]> best = null;
            int bestGain = -1, bestHours = 0;
            // sets with the first pair in come first, so a later one must be truly better
            for (int skipped = 0; skipped < 1 << pairs.size(); skipped++) {
                int gain = 0, takes = 0;
                for (int k = 0; k < pairs.size(); k++) {
                    if ((skipped >> (pairs.size() - 1 - k) & 1) == 0) {
                        takes += pairs.get(k)[2];
                        gain += pairs.get(k)[3];
                    }
                }
                if (takes <= h && (gain > bestGain || gain == bestGain && takes < bestHours)) {
                    bestGain = gain;
                    bestHours = takes;
                    best = new ArrayList<>();
                    for (int k = 0; k < pairs.size(); k++) {
                        if ((skipped >> (pairs.size() - 1 - k) & 1) == 0) best.add(pairs.get(k));
                    }
                }
            }
            if (what == -1) return bestGain;
            if (what == -2) return bestHours;
            if (what == -3) return best.size();
            return what < best.size() ? 10 * best.get(what)[0] + best.get(what)[1] : NONE;
        }

        int rest(int days) {
            if (!in(days, 1, 99)) return BAD;
            today += days;
            return today;
        }

        int cold(int had, int d, int what) {
            if (!arePlayers(had) || !in(d, 0, 14) || !in(what, 0, 12) || what < 10 && !isPlayer(what)) return BAD;
            Map<Integer, Long> now = new TreeMap<>();
            now.put(had, 1000000L);
            for (int day = 0; day < d; day++) {
                Map<Integer, Long> next = new TreeMap<>();
                for (Map.Entry<Integer, Long> e : now.entrySet()) {
                    parted(e.getKey(), e.getKey(), 0, e.getValue(), next);
                }
                now = next;
            }
            long sum = 0, most = -1;
            int mostSet = 0;
            for (Map.Entry<Integer, Long> e : now.entrySet()) {
                if (what < 10 && (e.getKey() >> what & 1) == 1) sum += e.getValue();
                if (what == 10 && e.getValue() > 0 && met(e.getKey())) sum += e.getValue();
                if (e.getValue() > most) {
                    most = e.getValue();
                    mostSet = e.getKey();
                }
            }
            return what <= 10 ? (int) sum : what == 11 ? mostSet : (int) most;
        }

        void parted(int begun, int now, int q, long n, Map<Integer, Long> next) {
            if (q == players.size()) {
                next.merge(now, n, Long::sum);
                return;
            }
            if ((begun >> q & 1) == 1) {
                parted(begun, now, q + 1, n, next);
                return;
            }
            long w = 1000000;
            for (int p = 0; p < players.size(); p++) {
                if ((begun >> p & 1) == 1) w = w * (100 - contagion[p][q]) / 100;
            }
            long stay = n * w / 1000000;
            parted(begun, now, q + 1, stay, next);
            if (n > stay) parted(begun, now | 1 << q, q + 1, n - stay, next);
        }

        List<Integer> weakSets(int k) {
            List<Integer> found = new ArrayList<>();
            for (int set = 0; set < 1 << players.size(); set++) {
                if (Integer.bitCount(set) == k && !met(set)) found.add(set);
            }
            return found;
        }

        boolean isAnyWeak(int k) {
            for (int set = 0; set < 1 << players.size(); set++) {
                if (Integer.bitCount(set) == k && !met(set)) return true;
            }
            return false;
        }

        int weak(int k, int what) {
            if (!in(k, 1, 2) || !in(what, 0, 1)) return BAD;
            List<Integer> sets = weakSets(k);
            return what == 0 ? sets.size() : sets.isEmpty() ? NONE : sets.get(0);
        }

        List<int[]> coversLeft() {
            List<int[]> found = new ArrayList<>();
            for (int p = 0; p < players.size(); p++) {
                for (int i = 0; i < parts.size(); i++) {
                    if (hasSkills(p, i) && !doesKnow(p, i) && own[i] != p) found.add(new int[] {p, i});
                }
            }
            return found;
        }

        int engaged(int k, int what) {
            if (!in(k, 1, 2) || !in(what, 0, 1)) return BAD;
            int[] best = null;
            int fewest = 0;
            for (int[] c : coversLeft()) {
                knows.add(c);
                int n = weakSets(k).size();
                knows.remove(knows.size() - 1);
                if (best == null || n < fewest) {
                    best = c;
                    fewest = n;
                }
            }
            return best == null ? NONE : what == 0 ? 10 * best[0] + best[1] : fewest;
        }

        int fewest() {
            if (weakSets(2).isEmpty()) return 0;
            List<int[]> covers = coversLeft();
            boolean two = false;
            for (int a = 0; a < covers.size(); a++) {
                knows.add(covers.get(a));
                boolean one = !isAnyWeak(2);
                for (int b = a + 1; b < covers.size() && !two && !one; b++) {
                    knows.add(covers.get(b));
                    two = !isAnyWeak(2);
                    knows.remove(knows.size() - 1);
                }
                knows.remove(knows.size() - 1);
                if (one) return 1;
            }
            return two ? 2 : NONE;
        }

        int night(int off) {
            if (!arePlayers(off)) return BAD;
            int[] who = leastOf(off, 0);
            if (who == null) return NONE;
            int trouble = troubleOf(who);
            for (int p = 0; p < players.size(); p++) {
                int others = 0;
                boolean on = false;
                for (int i = 0; i < who.length; i++) {
                    if (who[i] != p) continue;
                    on = true;
                    said[p][i] = today;
                    if (own[i] != p) others += parts.get(i)[2];
                }
                if (on) owed[p] += payNight + payLines * others / 10;
            }
            today++;
            return trouble;
        }

        int told(int p, int sum) {
            if (!isPlayer(p) || !in(sum, 0, 99999)) return BAD;
            int was = told[p];
            told[p] = sum;
            return was;
        }

        int wrong() {
            for (int p = 0; p < players.size(); p++) {
                if (owed[p] != told[p]) return p;
            }
            return NONE;
        }

        /** Played for real on a state that is put back. */
        int run(int n, int z, int mask) {
            if (!in(n, 1, 20) || !in(z, 0, 999) || !arePlayers(mask)) return BAD;
            Object[] before = state();
            int played = 0;
            while (played < n && night(((z + played) * 37) % 1024 & mask) != NONE) played++;
            put(before);
            return played;
        }

        Object[] state() {
            int[][] copy = new int[10][];
            for (int p = 0; p < 10; p++) copy[p] = said[p].clone();
            return new Object[] {copy, today, owed.clone()};
        }

        void put(Object[] state) {
            said = (int[][]) state[0];
            today = (Integer) state[1];
            owed = (int[]) state[2];
        }

        int keep() {
            if (kept.size() == 2) return FULL;
            kept.add(state());
            return kept.size();
        }

        int back() {
            if (kept.isEmpty()) return NO;
            put(kept.remove(kept.size() - 1));
            return kept.size();
        }

        int count(int what) {
            int[] all = {players.size(), parts.size(), scenes.size(), text.length, today, kept.size(), knows.size()};
            return in(what, 0, 6) ? all[what] : BAD;
        }
    }

    /** One object, called at random beside the model. */
    private static final class Run {
        final Random random;
        final int seed;
        final boolean large;
        final OnByThursday x = new OnByThursday();
        final Model m = Model.first();

        Run(int seed, boolean large) {
            this.seed = seed;
            this.large = large;
            m.early = large;
            random = new Random(seed);
        }

        void due(String call, long got, long want) {
            calls++;
            if (got != want) {
                wrongs++;
                System.out.println("seed " + seed + ", text " + new String(m.text, StandardCharsets.ISO_8859_1)
                    + ": " + call + " answered " + got + ", due is " + want);
            }
        }

        void play() {
            ask(12);
            for (int round = 0; round < 3; round++) {
                write(company());
                if (random.nextInt(3) == 0) write(spoilt());
                due("fault", x.fault(), new Model().read(m.text));
                due("lay", x.lay(), m.lay());
                if (large && random.nextInt(4) == 0) askDear();
                ask(60);
                if (random.nextBoolean()) {
                    due("wipe", x.wipe(), m.text.length);
                    m.text = new byte[0];
                }
            }
        }

        void write(String items) {
            byte[] bytes = items.getBytes(StandardCharsets.ISO_8859_1);
            int at = 0;
            while (at < bytes.length) {
                int n = Math.min(1 + random.nextInt(8), bytes.length - at);
                long v = random.nextLong();
                for (int b = 0; b < n; b++) v = v << 8 | bytes[at + b] & 255;
                due("write", x.write(n, v), append(n, v));
                at += n;
            }
        }

        int append(int n, long v) {
            if (n < 1 || n > 8) return BAD;
            if (m.text.length + n > 400) return FULL;
            byte[] longer = Arrays.copyOf(m.text, m.text.length + n);
            for (int b = 0; b < n; b++) longer[m.text.length + b] = (byte) (v >> 8 * (n - 1 - b));
            m.text = longer;
            return longer.length;
        }

        int upTo(int n) {
            return random.nextInt(n + 1);
        }

        String company() {
            int np = 1 + upTo(random.nextInt(4) == 0 ? 5 : 4), ni = 1 + upTo(random.nextInt(4) == 0 ? 5 : 3);
            if (large) {
                np = 7 + upTo(3);
                ni = 6 + upTo(2);
            }
            int skillful = random.nextInt(3);
            StringBuilder t = new StringBuilder();
            for (int p = 0; p < np; p++) t.append("a" + upTo(99) + "," + (skillful == 0 ? 15 : upTo(15) | upTo(15)) + ";");
            for (int i = 0; i < ni; i++) {
                int says = random.nextInt(4) == 0 ? 100 * (1 + upTo(4)) : 1 + upTo(random.nextBoolean() ? 998 : 200);
                t.append("p" + upTo(99) + "," + (skillful == 2 ? upTo(15) & upTo(15) & upTo(15) : 0) + "," + says + "," + upTo(1) + ";");
            }
            int scenes = upTo(6);
            for (int s = 0; s < scenes; s++) {
                int set = 1 + upTo((1 << ni) - 2) & (random.nextBoolean() ? 255 : upTo(255));
                t.append("c" + (set == 0 ? 1 : set) + "," + (1 + upTo(14)) + ";");
            }
            for (int i = 0; i < ni; i++) if (random.nextInt(6) > 0) t.append("o" + upTo(np - 1) + "," + i + ";");
            int covers = large ? 16 + upTo(8) : upTo(np * ni > 10 ? 10 : np * ni);
            for (int k = 0; k < covers; k++) t.append("k" + upTo(np - 1) + "," + upTo(ni - 1) + ";");
            for (int p = 0; p + 1 < np; p++) {
                if (random.nextInt(4) > 0) t.append("x" + p + "," + (p + 1 + upTo(np - 2 - p)) + "," + upTo(100) + ";");
            }
            if (random.nextBoolean()) t.append("m" + upTo(20) + ";");
            if (random.nextBoolean()) t.append("t" + upTo(9) + ";");
            if (random.nextBoolean()) t.append("f" + upTo(99) / (1 + upTo(20)) + ";");
            if (random.nextBoolean()) t.append("w" + upTo(999) + "," + upTo(99) + ";");
            return t.toString();
        }

        /** Items that are often wrong by a hair. */
        String spoilt() {
            String[] some = {
                "a99,15;", "a100,0;", "a5,16;", "a5;", "a5,5,5;", "p9,9,9,1;", "p9,9,0,1;", "p9,9,9,2;", "p99,15,999,0;",
                "p100,0,1,0;", "p0,16,1,0;", "c1,1;", "c0,1;", "c1,0;", "c1,100;", "c255,1;", "c256,1;", "c3,99;", "o0,0;",
                "o9,0;", "o0,7;", "k0,0;", "k9,0;", "k0,7;", "x0,1,100;", "x0,1,101;", "x0,0,5;", "x1,0,0;", "x0,9,5;",
                "m99;", "m100;", "m1,1;", "t9;", "t10;", "f99;", "f100;", "w999,99;", "w1000,9;", "w0,100;", "w5;",
                "a1,1", "a01,001;", "a0001,1;", "a,1;", "a1,;", "a;", ";", "z1;", "A1,1;", "a1 ,1;", "a-1,1;", "\u00e1", "a1,1,;",
                "1", "aa1,1;", "a1;1;", "p1,1,1,1,1;", "p1,1,1;", "x0,1;", "\u0000", "m;", "m007;"
            };
            StringBuilder t = new StringBuilder();
            int n = 1 + upTo(3);
            for (int k = 0; k < n; k++) t.append(some[upTo(some.length - 1)]);
            return t.toString();
        }

        int near(int size) {
            int r = random.nextInt(40);
            return r == 0 ? -1 : r == 1 ? size : r == 2 ? Integer.MIN_VALUE : r == 3 ? Integer.MAX_VALUE : upTo(size - 1);
        }

        void ask(int n) {
            for (int k = 0; k < n; k++) askOnce();
        }

        void askOnce() {
            int p = near(m.players.size()), i = near(m.parts.size()), j = near(m.parts.size());
            int off = random.nextInt(3) == 0 ? 0 : near(1 << m.players.size());
            int cut = random.nextInt(3) > 0 ? 0 : near(1 << m.parts.size());
            int what;
            int kind = random.nextInt(26);
            if (large && (kind == 10 || kind == 15 || kind == 16)) return;
            switch (kind) {
                case 0: what = near(5); due("player " + p + " " + what, x.player(p, what), m.player(p, what)); break;
                case 1: what = near(6); due("part " + i + " " + what, x.part(i, what), m.part(i, what)); break;
                case 2: due("both " + i + " " + j, x.both(i, j), m.both(i, j)); break;
                case 3: case 4: due("ways " + off + " " + cut, x.ways(off, cut), m.ways(off, cut)); break;
                case 5: case 6: what = near(m.parts.size() + 4) - 3;
                    due("least " + off + " " + cut + " " + what, x.least(off, cut, what), m.least(off, cut, what)); break;
                case 7: what = near(2); due("cuts " + off + " " + what, x.cuts(off, what), m.cuts(off, what)); break;
                case 8: due("lines " + p + " " + i, x.lines(p, i), m.lines(p, i)); break;
                case 9: due("rehearse " + p + " " + i, x.rehearse(p, i), m.rehearse(p, i)); break;
                case 10: askRehearsals(); break;
                case 11: what = random.nextInt(8) == 0 ? near(101) : upTo(4);
                    due("rest " + what, x.rest(what), m.rest(what)); break;
                case 12: case 13: int d = random.nextInt(9) == 0 ? near(16) : upTo(14); what = near(13);
                    due("cold " + off + " " + d + " " + what, x.cold(off, d, what), m.cold(off, d, what)); break;
                case 14: int k = near(4); what = near(2); due("weak " + k + " " + what, x.weak(k, what), m.weak(k, what)); break;
                case 15: int e = near(4); what = near(2); due("engaged " + e + " " + what, x.engaged(e, what), m.engaged(e, what)); break;
                case 16: due("fewest", x.fewest(), m.fewest()); break;
                case 17: case 18: due("night " + off, x.night(off), m.night(off)); break;
                case 19: due("owed " + p, x.owed(p), m.isPlayer(p) ? m.owed[p] : BAD); break;
                case 20: what = random.nextBoolean() && m.isPlayer(p) ? m.owed[p] : near(100001);
                    due("told " + p + " " + what, x.told(p, what), m.told(p, what)); break;
                case 21: due("wrong", x.wrong(), m.wrong()); break;
                case 22: int n = near(22), z = near(1001); due("run " + n + " " + z + " " + off, x.run(n, z, off), m.run(n, z, off)); break;
                case 23: due("keep", x.keep(), m.keep()); break;
                case 24: due("back", x.back(), m.back()); break;
                default: what = near(7); due("count " + what, x.count(what), m.count(what));
            }
        }

        /** What the model has to work long for is asked of a large company only once. */
        void askDear() {
            due("fewest", x.fewest(), m.fewest());
            int k = 1 + upTo(1);
            due("engaged " + k, x.engaged(k, 0), m.engaged(k, 0));
        }

        void askRehearsals() {
            int h = random.nextInt(9) == 0 ? near(101) : upTo(30);
            int what = near(12) - 3;
            due("rehearsals " + h + " " + what, x.rehearsals(h, what), m.rehearsals(h, what));
        }
    }
}
