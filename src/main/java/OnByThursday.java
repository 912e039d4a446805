import java.util.Arrays;

/**
 * A company on tour: who can step up for whom, what they still know of their parts,
 * how a cold goes round, and what the nights cost.
 */
public final class OnByThursday {
    public static final int BAD = -1, NO = -2, FULL = -3, NONE = -4;

    private static final int PLAYERS = 10, PARTS = 8, SCENES = 10, COVERS = 24;
    private static final int PAIRS = PLAYERS * PARTS;
    private static final int PAIRS_OF_PLAYERS = PLAYERS * (PLAYERS - 1) / 2;
    private static final int PLAYER_SETS = 1 << PLAYERS;
    private static final int TEXT_BYTES = 400;
    private static final int KEPT_AT_MOST = 2;
    private static final int MOST_HOURS = 99;
    private static final int MILLION = 1000000;
    private static final int MOST_SUM = 99999;

    private final byte[] text = new byte[TEXT_BYTES];
    private int textLength;
    private final Reader reader = new Reader();
    private Company company = new Company();
    private Company draft = new Company();
    private final Diary diary = new Diary();
    private final Diary firstKept = new Diary();
    private final Diary secondKept = new Diary();
    private int keptCount;
    private final int[] toldSums = new int[PLAYERS];
    private final Caster caster = new Caster();
    private final Absences absences = new Absences();
    private final Understudies understudies = new Understudies();
    private final Sickness sickness = new Sickness();
    private final Timetable timetable = new Timetable();

    public OnByThursday() {
        company.clear();
        company.addPlayer(50, 0);
        company.addPart(50, 0, 10, 0);
        company.giveOwn(0, 0);
        company.settle();
        startAnew();
    }

    // ---- companies

    public int write(int n, long v) {
        if (n < 1 || n > 8) {
            return BAD;
        }
        if (textLength + n > TEXT_BYTES) {
            return FULL;
        }
        for (int left = n - 1; left >= 0; left--) {
            text[textLength] = (byte) (v >>> (8 * left));
            textLength++;
        }
        return textLength;
    }

    public int wipe() {
        int was = textLength;
        textLength = 0;
        return was;
    }

    public int fault() {
        return reader.firstFault(text, textLength, draft);
    }

    public int lay() {
        if (reader.firstFault(text, textLength, draft) != NONE || draft.players == 0 || draft.parts == 0) {
            return NO;
        }
        Company before = company;
        company = draft;
        draft = before;
        company.settle();
        startAnew();
        return company.players;
    }

    private void startAnew() {
        diary.clear();
        keptCount = 0;
        Arrays.fill(toldSums, 0);
        absences.forget();
        understudies.forget();
        sickness.forget();
    }

    public int player(int p, int what) {
        if (!company.hasPlayer(p)) {
            return BAD;
        }
        switch (what) {
            case 0: return company.height[p];
            case 1: return company.skills[p];
            case 2: return company.ownParts(p);
            case 3: return company.known[p];
            case 4: return company.playable(p);
            default: return BAD;
        }
    }

    public int part(int i, int what) {
        if (!company.hasPart(i)) {
            return BAD;
        }
        switch (what) {
            case 0: return company.size[i];
            case 1: return company.wanted[i];
            case 2: return company.length[i];
            case 3: return company.cuttable >> i & 1;
            case 4: return company.plot.scenesOf(i);
            case 5: return company.owner[i];
            default: return BAD;
        }
    }

    // ---- castings

    public int both(int i, int j) {
        if (!company.hasPart(i) || !company.hasPart(j) || i == j) {
            return BAD;
        }
        return has(company.clash[i], j) ? 0 : 1;
    }

    public long ways(int off, int cut) {
        if (!company.hasPlayers(off) || !company.hasParts(cut)) {
            return 0;
        }
        return caster.countCastings(company, off, cut);
    }

    public int least(int off, int cut, int part) {
        boolean told = part >= 0 ? company.hasPart(part) : part >= -3;
        if (!told || !company.hasPlayers(off) || !company.hasParts(cut)) {
            return BAD;
        }
        if (part >= 0 && has(cut, part)) {
            return NO;
        }
        if (!caster.findLeast(company, diary, off, cut)) {
            return NONE;
        }
        switch (part) {
            case -1: return caster.bestTrouble;
            case -2: return caster.partsNotByOwners();
            case -3: return caster.forgottenLines(diary);
            default: return caster.best[part];
        }
    }

    public int cuts(int off, int what) {
        if (!company.hasPlayers(off) || what < 0 || what > 1) {
            return BAD;
        }
        int cheapest = absences.cheapestCut(company, off);
        if (cheapest == NONE || what == 0) {
            return cheapest;
        }
        return company.linesTogether(cheapest);
    }

    // ---- words

    public int lines(int p, int i) {
        if (!company.hasPlayer(p) || !company.hasPart(i)) {
            return BAD;
        }
        if (!company.mayPlay(p, i)) {
            return NO;
        }
        return diary.keptLines(company, p, i);
    }

    public int rehearse(int p, int i) {
        if (!company.hasPlayer(p) || !company.hasPart(i)) {
            return BAD;
        }
        if (!company.mayPlay(p, i)) {
            return NO;
        }
        diary.sayToday(p, i);
        return company.hours(i);
    }

    public int rehearsals(int h, int what) {
        if (h < 0 || h > MOST_HOURS || what < -3) {
            return BAD;
        }
        timetable.plan(company, diary, h);
        switch (what) {
            case -1: return timetable.linesMore;
            case -2: return timetable.hoursTaken;
            case -3: return timetable.chosenCount;
            default: return what < timetable.chosenCount ? timetable.chosen[what] : NONE;
        }
    }

    public int rest(int days) {
        if (days < 1 || days > 99) {
            return BAD;
        }
        diary.today += days;
        return diary.today;
    }

    // ---- colds, covers

    public int cold(int had, int d, int what) {
        boolean told = what >= 0 && what < PLAYERS ? company.hasPlayer(what) : what >= 10 && what <= 12;
        if (!told || !company.hasPlayers(had) || d < 0 || d > 14) {
            return BAD;
        }
        sickness.goOn(company, had, d);
        switch (what) {
            case 10: return sickness.timesMet(company, absences);
            case 11: return sickness.likeliest(company);
            case 12: return sickness.times[sickness.likeliest(company)];
            default: return sickness.timesIll(company, what);
        }
    }

    public int weak(int k, int what) {
        if (k < 1 || k > 2 || what < 0 || what > 1) {
            return BAD;
        }
        absences.findWeak(company, k);
        if (what == 0) {
            return absences.weakCount;
        }
        return absences.weakCount > 0 ? absences.weakSets[0] : NONE;
    }

    public int engaged(int k, int what) {
        if (k < 1 || k > 2 || what < 0 || what > 1) {
            return BAD;
        }
        understudies.survey(company, absences, k);
        understudies.findBest(k, absences.weakCount);
        return what == 0 || understudies.bestCover == NONE ? understudies.bestCover : understudies.stillWeak;
    }

    public int fewest() {
        understudies.survey(company, absences, 2);
        return understudies.fewestForPairs(company, absences);
    }

    // ---- nights

    public int night(int off) {
        if (!company.hasPlayers(off)) {
            return BAD;
        }
        if (!caster.findLeast(company, diary, off, 0)) {
            return NONE;
        }
        for (int p = 0; p < company.players; p++) {
            diary.playNight(company, p, caster.partsPlayedBy(p));
        }
        diary.today++;
        return caster.bestTrouble;
    }

    public int owed(int p) {
        return company.hasPlayer(p) ? diary.owing[p] : BAD;
    }

    public int told(int p, int sum) {
        if (!company.hasPlayer(p) || sum < 0 || sum > MOST_SUM) {
            return BAD;
        }
        int was = toldSums[p];
        toldSums[p] = sum;
        return was;
    }

    public int wrong() {
        for (int p = 0; p < company.players; p++) {
            if (diary.owing[p] != toldSums[p]) {
                return p;
            }
        }
        return NONE;
    }

    /** Words and pay don't decide whether a night is met, so none of these nights need be played. */
    public int run(int n, int z, int mask) {
        if (n < 1 || n > 20 || z < 0 || z > 999 || !company.hasPlayers(mask)) {
            return BAD;
        }
        for (int i = 0; i < n; i++) {
            int off = (z + i) * 37 % 1024 & mask;
            if (!absences.isMet(company, off)) {
                return i;
            }
        }
        return n;
    }

    public int keep() {
        if (keptCount >= KEPT_AT_MOST) {
            return FULL;
        }
        Diary free = keptCount == 0 ? firstKept : secondKept;
        free.copy(diary);
        keptCount++;
        return keptCount;
    }

    public int back() {
        if (keptCount <= 0) {
            return NO;
        }
        keptCount--;
        Diary last = keptCount == 0 ? firstKept : secondKept;
        diary.copy(last);
        return keptCount;
    }

    public int count(int what) {
        switch (what) {
            case 0: return company.players;
            case 1: return company.parts;
            case 2: return company.plot.scenes;
            case 3: return textLength;
            case 4: return diary.today;
            case 5: return keptCount;
            case 6: return company.covers;
            default: return BAD;
        }
    }

    private static boolean has(int set, int member) {
        return (set >> member & 1) != 0;
    }

    /** Reads a text item by item into a company. */
    private static final class Reader {
        private final int[] numbers = new int[4];
        private int numberCount;

        /** The place of the first fault, or NONE; the company holds what is told ahead of it. */
        int firstFault(byte[] text, int length, Company into) {
            into.clear();
            int at = 0;
            while (at < length) {
                int next = endOfItem(text, length, at);
                if (next <= at || !into.take(text[at], numbers, numberCount)) {
                    return at;
                }
                at = next;
            }
            return NONE;
        }

        /** The place behind the item, its numbers being put aside; 0 if its form is wrong. */
        private int endOfItem(byte[] text, int length, int start) {
            int at = start + 1;
            for (int n = 0; n < numbers.length; n++) {
                int end = endOfFigures(text, length, at);
                if (end == at || end >= length) {
                    return 0;
                }
                numbers[n] = numberOf(text, at, end);
                at = end + 1;
                if (text[end] == ';') {
                    numberCount = n + 1;
                    return at;
                }
                if (text[end] != ',') {
                    return 0;
                }
            }
            return 0;
        }

        private static int endOfFigures(byte[] text, int length, int start) {
            int at = start;
            while (at < length && at < start + 3 && text[at] >= '0' && text[at] <= '9') {
                at++;
            }
            return at;
        }

        private static int numberOf(byte[] text, int start, int end) {
            int number = 0;
            for (int at = start; at < end; at++) {
                number = number * 10 + text[at] - '0';
            }
            return number;
        }
    }

    /** What a text tells, and what follows from it for all castings. */
    private static final class Company {
        int players, parts, covers;
        final int[] height = new int[PLAYERS];
        final int[] skills = new int[PLAYERS];
        final int[] known = new int[PLAYERS];
        final int[] size = new int[PARTS];
        final int[] wanted = new int[PARTS];
        final int[] length = new int[PARTS];
        final int[] owner = new int[PARTS];
        int cuttable;
        final Plot plot = new Plot();
        final int[] contagion = new int[PLAYERS * PLAYERS];
        int tailor, forgetting, payNight, payLines;
        /** For each part the players that may play it. */
        final int[] able = new int[PARTS];
        /** For each part the parts that nobody can have beside it. */
        final int[] clash = new int[PARTS];

        void clear() {
            players = 0;
            parts = 0;
            covers = 0;
            cuttable = 0;
            Arrays.fill(known, 0);
            Arrays.fill(owner, NONE);
            Arrays.fill(contagion, 0);
            plot.clear();
            tailor = 1;
            forgetting = 10;
            payNight = 100;
            payLines = 5;
        }

        /** Takes an item in; false if it tells what can't be. */
        boolean take(int letter, int[] numbers, int count) {
            int a = numbers[0], b = numbers[1], c = numbers[2], d = numbers[3];
            switch (letter) {
                case 'a': return count == 2 && addPlayer(a, b);
                case 'p': return count == 4 && addPart(a, b, c, d);
                case 'c': return count == 2 && tellScene(a, b);
                case 'o': return count == 2 && giveOwn(a, b);
                case 'k': return count == 2 && addCover(a, b);
                case 'x': return count == 3 && setContagion(a, b, c);
                case 'm': return count == 1 && setChange(a);
                case 't': return count == 1 && setTailor(a);
                case 'f': return count == 1 && setForgetting(a);
                case 'w': return count == 2 && setPay(a, b);
                default: return false;
            }
        }

        boolean addPlayer(int tall, int can) {
            if (players >= PLAYERS || tall > 99 || can > 15) {
                return false;
            }
            height[players] = tall;
            skills[players] = can;
            players++;
            return true;
        }

        boolean addPart(int fits, int wants, int says, int mayBeCut) {
            if (parts >= PARTS || fits > 99 || wants > 15 || says < 1 || says > 999 || mayBeCut > 1) {
                return false;
            }
            size[parts] = fits;
            wanted[parts] = wants;
            length[parts] = says;
            cuttable |= mayBeCut << parts;
            parts++;
            return true;
        }

        private boolean tellScene(int set, int lasts) {
            if (plot.scenes >= SCENES || set < 1 || !hasParts(set) || lasts < 1 || lasts > 99) {
                return false;
            }
            plot.addScene(set, lasts);
            return true;
        }

        boolean giveOwn(int p, int i) {
            if (!hasPlayer(p) || !hasPart(i)) {
                return false;
            }
            owner[i] = p;
            return true;
        }

        private boolean addCover(int p, int i) {
            if (covers >= COVERS || !hasPlayer(p) || !hasPart(i)) {
                return false;
            }
            known[p] |= 1 << i;
            covers++;
            return true;
        }

        private boolean setContagion(int p, int q, int hundredths) {
            if (!hasPlayer(p) || !hasPlayer(q) || p == q || hundredths > 100) {
                return false;
            }
            contagion[p * PLAYERS + q] = hundredths;
            contagion[q * PLAYERS + p] = hundredths;
            return true;
        }

        private boolean setChange(int takes) {
            if (takes > 99) {
                return false;
            }
            plot.change = takes;
            return true;
        }

        private boolean setTailor(int factor) {
            if (factor > 9) {
                return false;
            }
            tailor = factor;
            return true;
        }

        private boolean setForgetting(int hundredths) {
            if (hundredths > 99) {
                return false;
            }
            forgetting = hundredths;
            return true;
        }

        private boolean setPay(int perNight, int perTenLines) {
            if (perNight > 999 || perTenLines > 99) {
                return false;
            }
            payNight = perNight;
            payLines = perTenLines;
            return true;
        }

        /** Works out once what every search for castings asks again and again. */
        void settle() {
            for (int i = 0; i < parts; i++) {
                able[i] = 0;
                for (int p = 0; p < players; p++) {
                    if ((owner[i] == p || has(known[p], i)) && isSkilled(p, i)) {
                        able[i] |= 1 << p;
                    }
                }
                clash[i] = 0;
                for (int j = 0; j < parts; j++) {
                    if (j != i && plot.clashes(i, j)) {
                        clash[i] |= 1 << j;
                    }
                }
            }
        }

        boolean isSkilled(int p, int i) {
            return (wanted[i] & ~skills[p]) == 0;
        }

        boolean hasPlayer(int p) {
            return p >= 0 && p < players;
        }

        boolean hasPart(int i) {
            return i >= 0 && i < parts;
        }

        boolean hasPlayers(int set) {
            return set >= 0 && set < 1 << players;
        }

        boolean hasParts(int set) {
            return set >= 0 && set < 1 << parts;
        }

        boolean mayPlay(int p, int i) {
            return has(able[i], p);
        }

        int ownParts(int p) {
            int set = 0;
            for (int i = 0; i < parts; i++) {
                if (owner[i] == p) {
                    set |= 1 << i;
                }
            }
            return set;
        }

        int playable(int p) {
            int set = 0;
            for (int i = 0; i < parts; i++) {
                if (mayPlay(p, i)) {
                    set |= 1 << i;
                }
            }
            return set;
        }

        int linesTogether(int set) {
            int sum = 0;
            for (int i = 0; i < parts; i++) {
                if (has(set, i)) {
                    sum += length[i];
                }
            }
            return sum;
        }

        int hours(int i) {
            return (length[i] + 99) / 100;
        }
    }

    /** The scenes in their row, and how long a change takes. */
    private static final class Plot {
        int scenes;
        int change;
        private final int[] onStage = new int[SCENES];
        private final int[] minutes = new int[SCENES];

        void clear() {
            scenes = 0;
            change = 0;
        }

        void addScene(int set, int lasts) {
            onStage[scenes] = set;
            minutes[scenes] = lasts;
            scenes++;
        }

        int scenesOf(int i) {
            int set = 0;
            for (int s = 0; s < scenes; s++) {
                if (has(onStage[s], i)) {
                    set |= 1 << s;
                }
            }
            return set;
        }

        /**
         * Only neighbouring scenes of the two parts need be looked at. And pairs of parts decide for any number
         * of them: a third part between two makes the time for a change shorter, never longer.
         */
        boolean clashes(int i, int j) {
            int lastOn = NONE;
            int since = 0;
            for (int s = 0; s < scenes; s++) {
                boolean onAsI = has(onStage[s], i);
                boolean onAsJ = has(onStage[s], j);
                if (!onAsI && !onAsJ) {
                    since += minutes[s];
                    continue;
                }
                int nowOn = onAsI ? i : j;
                boolean changes = lastOn != NONE && lastOn != nowOn;
                if (onAsI && onAsJ || changes && since < change) {
                    return true;
                }
                lastOn = nowOn;
                since = 0;
            }
            return false;
        }
    }

    /** What goes on from day to day, and is kept and brought back as a whole. */
    private static final class Diary {
        int today;
        final int[] owing = new int[PLAYERS];
        private final int[] said = new int[PAIRS];

        void clear() {
            today = 0;
            Arrays.fill(owing, 0);
            Arrays.fill(said, 0);
        }

        void copy(Diary other) {
            today = other.today;
            System.arraycopy(other.owing, 0, owing, 0, PLAYERS);
            System.arraycopy(other.said, 0, said, 0, PAIRS);
        }

        void sayToday(int p, int i) {
            said[p * PARTS + i] = today;
        }

        int keptLines(Company company, int p, int i) {
            int days = today - said[p * PARTS + i];
            int hundredths = Math.max(0, 100 - company.forgetting * days);
            return company.length[i] * hundredths / 100;
        }

        int lostLines(Company company, int p, int i) {
            return company.length[i] - keptLines(company, p, i);
        }

        void playNight(Company company, int p, int set) {
            if (set == 0) {
                return;
            }
            int asCover = company.linesTogether(set & ~company.ownParts(p));
            owing[p] += company.payNight + company.payLines * asCover / 10;
            for (int i = 0; i < company.parts; i++) {
                if (has(set, i)) {
                    sayToday(p, i);
                }
            }
        }
    }

    /** Goes through castings part by part, for each part through the players by their numbers. */
    private static final class Caster {
        /** Above the trouble of any casting. */
        private static final int UNMET = 1000000;

        private Company company;
        private int off, cut;
        private final int[] taken = new int[PLAYERS];
        private final int[] chosen = new int[PARTS];
        private final int[] trouble = new int[PAIRS];
        /** What the parts from one on can't be below, whoever plays them. */
        private final int[] floor = new int[PARTS + 1];
        final int[] best = new int[PARTS];
        int bestTrouble;

        private void begin(Company playing, int missing, int left) {
            company = playing;
            off = missing;
            cut = left;
            Arrays.fill(taken, 0);
        }

        private boolean isFree(int p, int i) {
            return has(company.able[i] & ~off, p) && (taken[p] & company.clash[i]) == 0;
        }

        long countCastings(Company playing, int missing, int left) {
            begin(playing, missing, left);
            return countFrom(this, 0);
        }

        private static long countFrom(Caster c, int i) {
            if (i >= c.company.parts) {
                return 1;
            }
            if (has(c.cut, i)) {
                return countFrom(c, i + 1);
            }
            long sum = 0;
            for (int p = 0; p < c.company.players; p++) {
                if (c.isFree(p, i)) {
                    c.taken[p] |= 1 << i;
                    sum += countFrom(c, i + 1);
                    c.taken[p] &= ~(1 << i);
                }
            }
            return sum;
        }

        /** False if there is no casting. */
        boolean findLeast(Company playing, Diary diary, int missing, int left) {
            begin(playing, missing, left);
            bestTrouble = UNMET;
            floor[company.parts] = 0;
            for (int i = company.parts - 1; i >= 0; i--) {
                floor[i] = floor[i + 1] + (has(cut, i) ? 0 : weigh(diary, i));
            }
            improveFrom(this, 0, 0);
            return bestTrouble < UNMET;
        }

        /** The least trouble of a part by itself. */
        private int weigh(Diary diary, int i) {
            int least = UNMET;
            for (int p = 0; p < company.players; p++) {
                if (has(company.able[i] & ~off, p)) {
                    int weight = diary.lostLines(company, p, i);
                    if (company.owner[i] != p) {
                        weight += 100 + company.tailor * Math.abs(company.height[p] - company.size[i]);
                    }
                    trouble[p * PARTS + i] = weight;
                    least = Math.min(least, weight);
                }
            }
            return least;
        }

        /** Takes only what is truly less, so that of equals the first one stays. */
        private static void improveFrom(Caster c, int i, int soFar) {
            if (soFar + c.floor[i] >= c.bestTrouble) {
                return;
            }
            if (i >= c.company.parts) {
                c.bestTrouble = soFar;
                System.arraycopy(c.chosen, 0, c.best, 0, PARTS);
                return;
            }
            if (has(c.cut, i)) {
                c.chosen[i] = NONE;
                improveFrom(c, i + 1, soFar);
                return;
            }
            for (int p = 0; p < c.company.players; p++) {
                if (c.isFree(p, i)) {
                    c.taken[p] |= 1 << i;
                    c.chosen[i] = p;
                    improveFrom(c, i + 1, soFar + c.trouble[p * PARTS + i]);
                    c.taken[p] &= ~(1 << i);
                }
            }
        }

        int partsPlayedBy(int p) {
            int set = 0;
            for (int i = 0; i < company.parts; i++) {
                if (best[i] == p) {
                    set |= 1 << i;
                }
            }
            return set;
        }

        int partsNotByOwners() {
            int sum = 0;
            for (int i = 0; i < company.parts; i++) {
                if (best[i] >= 0 && best[i] != company.owner[i]) {
                    sum++;
                }
            }
            return sum;
        }

        int forgottenLines(Diary diary) {
            int sum = 0;
            for (int i = 0; i < company.parts; i++) {
                if (best[i] >= 0) {
                    sum += diary.lostLines(company, best[i], i);
                }
            }
            return sum;
        }
    }

    /** Finds out whether there is any casting, without looking for the best one. */
    private static final class Attempt {
        private Company company;
        private int open;
        /** A row for each part that has been cast: who is left for each open part. */
        private final int[] left = new int[(PARTS + 1) * PARTS];

        void begin(Company playing, int off, int cut) {
            company = playing;
            open = (1 << company.parts) - 1 & ~cut;
            for (int i = 0; i < company.parts; i++) {
                left[i] = company.able[i] & ~off;
            }
        }

        /** A player has an open part, whether it may play it or not. */
        void give(int p, int i) {
            open &= ~(1 << i);
            for (int j = 0; j < company.parts; j++) {
                if (has(company.clash[i], j)) {
                    left[j] &= ~(1 << p);
                }
            }
        }

        boolean succeeds() {
            return canFill(this, open, 0);
        }

        /** The part with the fewest players left is cast first: that shows soonest that there is no way. */
        private static boolean canFill(Attempt a, int open, int depth) {
            if (open == 0) {
                return true;
            }
            if (depth >= PARTS) {
                return false;
            }
            int row = depth * PARTS;
            int i = a.scarcest(open, row);
            int others = open & ~(1 << i);
            for (int p = 0; p < a.company.players; p++) {
                if (has(a.left[row + i], p) && a.strike(others, row, p, i) && canFill(a, others, depth + 1)) {
                    return true;
                }
            }
            return false;
        }

        private int scarcest(int among, int row) {
            int found = 0;
            int fewest = PLAYERS + 1;
            for (int i = 0; i < company.parts && fewest > 1; i++) {
                int players = Integer.bitCount(left[row + i]);
                if (has(among, i) && players < fewest) {
                    fewest = players;
                    found = i;
                }
            }
            return found;
        }

        /** Fills the next row, the player having the part; false if nobody is left then for another one. */
        private boolean strike(int others, int row, int p, int part) {
            int clash = company.clash[part];
            for (int i = 0; i < company.parts; i++) {
                if (has(others, i)) {
                    int still = has(clash, i) ? left[row + i] & ~(1 << p) : left[row + i];
                    if (still == 0) {
                        return false;
                    }
                    left[row + PARTS + i] = still;
                }
            }
            return true;
        }
    }

    /** Which sets of players can be missed; asked so often that the answers are held till a company is laid. */
    private static final class Absences {
        private static final int UNKNOWN = 0, MET = 1, NOT_MET = 2;

        private final int[] answers = new int[PLAYER_SETS];
        private final Attempt attempt = new Attempt();
        final int[] weakSets = new int[PAIRS_OF_PLAYERS];
        int weakCount;

        void forget() {
            Arrays.fill(answers, UNKNOWN);
        }

        boolean isMet(Company company, int off) {
            if (answers[off] == UNKNOWN) {
                attempt.begin(company, off, 0);
                answers[off] = attempt.succeeds() ? MET : NOT_MET;
            }
            return answers[off] == MET;
        }

        /** The set of parts, or NONE. */
        int cheapestCut(Company company, int off) {
            int found = NONE;
            int fewestLines = 0;
            for (int set = 0; set < 1 << company.parts; set++) {
                if ((set & ~company.cuttable) != 0) {
                    continue;
                }
                int lost = company.linesTogether(set);
                attempt.begin(company, off, set);
                if ((found == NONE || lost < fewestLines) && attempt.succeeds()) {
                    found = set;
                    fewestLines = lost;
                }
            }
            return found;
        }

        void findWeak(Company company, int k) {
            weakCount = 0;
            for (int set = 1; set < 1 << company.players; set++) {
                if (Integer.bitCount(set) == k && !isMet(company, set)) {
                    weakSets[weakCount] = set;
                    weakCount++;
                }
            }
        }
    }

    /**
     * Covers that could be engaged. A weak set is met with a cover only by castings in which the cover plays
     * its new part, so this part is cast ahead. What has been found out is held till a company is laid.
     */
    private static final class Understudies {
        private final Attempt attempt = new Attempt();
        private final int[] coverPlayer = new int[PAIRS];
        private final int[] coverPart = new int[PAIRS];
        private int covers;
        /** For each size of sets (1, 2) and each cover: the weak sets (bits, as they come) that are met with it. */
        private final long[] helped = new long[3 * PAIRS];
        private int surveyedSizes;
        private boolean twoAsked, twoEnough;
        int bestCover, stillWeak;

        void forget() {
            surveyedSizes = 0;
            twoAsked = false;
        }

        /** To be asked ahead of the rest; it lists the weak sets, too. */
        void survey(Company company, Absences absences, int k) {
            absences.findWeak(company, k);
            listCovers(company);
            if (has(surveyedSizes, k)) {
                return;
            }
            surveyedSizes |= 1 << k;
            for (int c = 0; c < covers; c++) {
                long sets = 0;
                for (int w = 0; w < absences.weakCount; w++) {
                    if (helps(company, absences.weakSets[w], c)) {
                        sets |= 1L << w;
                    }
                }
                helped[k * PAIRS + c] = sets;
            }
        }

        private void listCovers(Company company) {
            covers = 0;
            for (int p = 0; p < company.players; p++) {
                for (int i = 0; i < company.parts; i++) {
                    if (company.isSkilled(p, i) && !company.mayPlay(p, i)) {
                        coverPlayer[covers] = p;
                        coverPart[covers] = i;
                        covers++;
                    }
                }
            }
        }

        private boolean helps(Company company, int off, int c) {
            if (has(off, coverPlayer[c])) {
                return false;
            }
            attempt.begin(company, off, 0);
            attempt.give(coverPlayer[c], coverPart[c]);
            return attempt.succeeds();
        }

        private boolean helpTogether(Company company, int off, int c, int d) {
            int p = coverPlayer[c], q = coverPlayer[d];
            int i = coverPart[c], j = coverPart[d];
            if (has(off, p) || has(off, q) || i == j || p == q && has(company.clash[i], j)) {
                return false;
            }
            attempt.begin(company, off, 0);
            attempt.give(p, i);
            attempt.give(q, j);
            return attempt.succeeds();
        }

        void findBest(int k, int weakCount) {
            bestCover = NONE;
            for (int c = 0; c < covers; c++) {
                int weakThen = weakCount - Long.bitCount(helped[k * PAIRS + c]);
                if (bestCover == NONE || weakThen < stillWeak) {
                    bestCover = 10 * coverPlayer[c] + coverPart[c];
                    stillWeak = weakThen;
                }
            }
        }

        int fewestForPairs(Company company, Absences absences) {
            if (absences.weakCount == 0) {
                return 0;
            }
            long all = (1L << absences.weakCount) - 1;
            for (int c = 0; c < covers; c++) {
                if (helped[2 * PAIRS + c] == all) {
                    return 1;
                }
            }
            if (!twoAsked) {
                twoAsked = true;
                twoEnough = false;
                for (int c = 0; c < covers; c++) {
                    for (int d = c + 1; d < covers && !twoEnough; d++) {
                        twoEnough = areEnough(company, absences, c, d);
                    }
                }
            }
            return twoEnough ? 2 : NONE;
        }

        private boolean areEnough(Company company, Absences absences, int c, int d) {
            long byOne = helped[2 * PAIRS + c] | helped[2 * PAIRS + d];
            for (int w = 0; w < absences.weakCount; w++) {
                if ((byOne >> w & 1) == 0 && !helpTogether(company, absences.weakSets[w], c, d)) {
                    return false;
                }
            }
            return true;
        }
    }

    /** A cold from day to day; the last one asked for is held, as the next call mostly asks of it again. */
    private static final class Sickness {
        /** For each set of players that have it, in how many of a million. */
        final int[] times = new int[PLAYER_SETS];
        private final int[] nextTimes = new int[PLAYER_SETS];
        private final int[] branchSet = new int[PLAYER_SETS];
        private final int[] branchTimes = new int[PLAYER_SETS];
        private int branches;
        private int start;
        private int day;

        void forget() {
            start = NONE;
        }

        void goOn(Company company, int had, int days) {
            if (had != start || days < day) {
                Arrays.fill(times, 0);
                times[had] = MILLION;
                start = had;
                day = 0;
            }
            while (day < days) {
                passDay(company);
                day++;
            }
        }

        private void passDay(Company company) {
            int states = 1 << company.players;
            Arrays.fill(nextTimes, 0, states, 0);
            for (int state = 0; state < states; state++) {
                if (times[state] > 0) {
                    spread(company, state);
                }
            }
            System.arraycopy(nextTimes, 0, times, 0, states);
        }

        private void spread(Company company, int state) {
            branchSet[0] = state;
            branchTimes[0] = times[state];
            branches = 1;
            for (int p = 0; p < company.players; p++) {
                if (!has(state, p)) {
                    divide(p, staysWell(company, state, p));
                }
            }
            for (int b = 0; b < branches; b++) {
                nextTimes[branchSet[b]] += branchTimes[b];
            }
        }

        private int staysWell(Company company, int state, int p) {
            int well = MILLION;
            for (int q = 0; q < company.players; q++) {
                if (has(state, q)) {
                    well = well * (100 - company.contagion[q * PLAYERS + p]) / 100;
                }
            }
            return well;
        }

        /** Empty branches are left out: most players are near nobody that has it. */
        private void divide(int p, int well) {
            int before = branches;
            for (int b = 0; b < before; b++) {
                int all = branchTimes[b];
                int stay = (int) ((long) all * well / MILLION);
                int caught = branchSet[b] | 1 << p;
                if (stay == 0) {
                    branchSet[b] = caught;
                } else if (stay < all) {
                    branchTimes[b] = stay;
                    branchSet[branches] = caught;
                    branchTimes[branches] = all - stay;
                    branches++;
                }
            }
        }

        int timesIll(Company company, int p) {
            int sum = 0;
            for (int state = 0; state < 1 << company.players; state++) {
                if (has(state, p)) {
                    sum += times[state];
                }
            }
            return sum;
        }

        int timesMet(Company company, Absences absences) {
            int sum = 0;
            for (int state = 0; state < 1 << company.players; state++) {
                if (times[state] > 0 && absences.isMet(company, state)) {
                    sum += times[state];
                }
            }
            return sum;
        }

        int likeliest(Company company) {
            int found = 0;
            for (int state = 1; state < 1 << company.players; state++) {
                if (times[state] > times[found]) {
                    found = state;
                }
            }
            return found;
        }
    }

    /** The rehearsals that are worth most in some hours. */
    private static final class Timetable {
        /** Each part has one owner at most, so there are no more pairs than these. */
        private static final int MOST_PAIRS = PARTS + COVERS;
        private static final int ROW = MOST_HOURS + 1;
        /** A line counts more than all hours: these only decide between sets of as many lines. */
        private static final int LINE = 128;

        private final int[] pair = new int[MOST_PAIRS];
        private final int[] pairHours = new int[MOST_PAIRS];
        private final int[] pairLines = new int[MOST_PAIRS];
        private int pairs;
        /** For each pair and number of hours what can be had from this pair on. */
        private final int[] worth = new int[(MOST_PAIRS + 1) * ROW];
        final int[] chosen = new int[MOST_PAIRS];
        int chosenCount, linesMore, hoursTaken;

        void plan(Company company, Diary diary, int hours) {
            listPairs(company, diary);
            weighPairs(hours);
            choosePairs(hours);
        }

        /** A pair that brings no line is left out: it would only take hours. */
        private void listPairs(Company company, Diary diary) {
            pairs = 0;
            for (int p = 0; p < company.players; p++) {
                for (int i = 0; i < company.parts; i++) {
                    int more = company.mayPlay(p, i) ? diary.lostLines(company, p, i) : 0;
                    if (more > 0 && pairs < MOST_PAIRS) {
                        pair[pairs] = 10 * p + i;
                        pairHours[pairs] = company.hours(i);
                        pairLines[pairs] = more;
                        pairs++;
                    }
                }
            }
        }

        private void weighPairs(int hours) {
            Arrays.fill(worth, pairs * ROW, pairs * ROW + ROW, 0);
            for (int k = pairs - 1; k >= 0; k--) {
                for (int h = 0; h <= hours; h++) {
                    int without = worth[(k + 1) * ROW + h];
                    worth[k * ROW + h] = Math.max(without, worthWith(k, h));
                }
            }
        }

        private int worthWith(int k, int hours) {
            int left = hours - pairHours[k];
            if (left < 0) {
                return -1;
            }
            return pairLines[k] * LINE - pairHours[k] + worth[(k + 1) * ROW + left];
        }

        /** Of sets that are worth the same the first one has the pair that comes first. */
        private void choosePairs(int hours) {
            chosenCount = 0;
            linesMore = 0;
            hoursTaken = 0;
            for (int k = 0; k < pairs; k++) {
                int left = hours - hoursTaken;
                if (worthWith(k, left) >= worth[(k + 1) * ROW + left]) {
                    chosen[chosenCount] = pair[k];
                    chosenCount++;
                    linesMore += pairLines[k];
                    hoursTaken += pairHours[k];
                }
            }
        }
    }
}
