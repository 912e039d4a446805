import java.nio.charset.StandardCharsets;

/** Each promise by hand: the ordinary, the edges, the wrong. */
public final class PromisesTest {
    private static final int BAD = OnByThursday.BAD, NO = OnByThursday.NO;
    private static final int FULL = OnByThursday.FULL, NONE = OnByThursday.NONE;
    private static int promise = 0;
    private static int wrongs = 0;

    public static void main(String[] args) {
        newObject();
        write();
        wipe();
        fault();
        lay();
        player();
        part();
        both();
        ways();
        least();
        cuts();
        lines();
        rehearse();
        rehearsals();
        rest();
        cold();
        weak();
        engaged();
        fewest();
        night();
        owed();
        told();
        wrong();
        run();
        keepAndBack();
        count();
        System.out.println(wrongs == 0 ? "all promises hold" : wrongs + " answers are not as due");
        if (wrongs > 0) {
            System.exit(1);
        }
    }

    private static void due(String call, long got, long want) {
        if (got != want) {
            wrongs++;
            System.out.println("promise " + promise + ": " + call + " answered " + got + ", due is " + want);
        }
    }

    private static void put(OnByThursday x, String items) {
        for (byte b : items.getBytes(StandardCharsets.ISO_8859_1)) {
            x.write(1, b);
        }
    }

    private static OnByThursday laid(String items) {
        OnByThursday x = new OnByThursday();
        put(x, items);
        if (x.lay() < 1) {
            wrongs++;
            System.out.println("promise " + promise + ": not laid, fault at " + x.fault() + ": " + items);
        }
        return x;
    }

    private static int faultOf(String items) {
        OnByThursday x = new OnByThursday();
        put(x, items);
        return x.fault();
    }

    private static void dueFault(String items, int want) {
        due("fault of " + items, faultOf(items), want);
    }

    private static String times(int n, String items) {
        return items.repeat(n);
    }

    private static void newObject() {
        promise = 1;
        OnByThursday x = new OnByThursday();
        int[] counts = {1, 1, 0, 0, 0, 0, 0};
        for (int what = 0; what < 7; what++) due("count " + what, x.count(what), counts[what]);
        due("height", x.player(0, 0), 50);
        due("skills", x.player(0, 1), 0);
        due("own", x.player(0, 2), 1);
        due("knows", x.player(0, 3), 0);
        due("may", x.player(0, 4), 1);
        due("size", x.part(0, 0), 50);
        due("lines", x.part(0, 2), 10);
        due("C", x.part(0, 3), 0);
        due("owner", x.part(0, 5), 0);
        due("BAD", BAD, -1);
        due("NO", NO, -2);
        due("FULL", FULL, -3);
        due("NONE", NONE, -4);
        due("fault of an empty text", x.fault(), NONE);
        due("the pay without w", x.night(0), 0);
        due("the pay without w", x.owed(0), 100);
    }

    private static void write() {
        promise = 2;
        OnByThursday x = new OnByThursday();
        due("0 bytes", x.write(0, 97), BAD);
        due("9 bytes", x.write(9, 97), BAD);
        due("-1 bytes", x.write(-1, 97), BAD);
        due("least int", x.write(Integer.MIN_VALUE, 97), BAD);
        due("most int", x.write(Integer.MAX_VALUE, 97), BAD);
        due("nothing came", x.count(3), 0);
        // the highest of the lowest three bytes first; those above are none of them
        due("3 bytes", x.write(3, 0x7a7a613530L), 3);
        due("3 bytes", x.write(3, 0x2c303bL), 6);
        due("a50,0; has no fault", x.fault(), NONE);
        for (int n = 14; n <= 398; n += 8) due("8 bytes", x.write(8, -1L), n);
        due("3 beyond 400", x.write(3, 0), FULL);
        due("nothing came", x.count(3), 398);
        due("BAD ahead of FULL", x.write(0, 0), BAD);
        due("2 up to 400", x.write(2, 0), 400);
        due("1 beyond 400", x.write(1, 0), FULL);
        due("a byte of 255 is a fault", x.fault(), 6);
    }

    private static void wipe() {
        promise = 3;
        OnByThursday x = new OnByThursday();
        due("empty", x.wipe(), 0);
        put(x, "a1,1;p1,1,1,1;");
        due("lay", x.lay(), 1);
        due("wipe", x.wipe(), 14);
        due("again", x.wipe(), 0);
        due("count", x.count(3), 0);
        due("the company stays", x.player(0, 0), 1);
        due("no company in it", x.lay(), NO);
    }

    private static void fault() {
        promise = 4;
        String two = "a9,0;a9,0;p9,0,9,0;";
        dueFault(two, NONE);
        dueFault("a0,0;a99,15;p0,0,1,0;p99,15,999,1;c3,1;c1,99;o1,1;k0,0;x0,1,0;x1,0,100;m0;m99;t0;t9;f0;f99;w0,0;w999,99;", NONE);
        dueFault("a007,015;", NONE);
        String[] bad = {
            "a100,0;", "a0,16;", "a0;", "a0,0,0;", "a", "a0,0", "a0,", "a,0;", "a0,0,;", "a0000,0;", "a 0,0;", "a0,0 ;", "A0,0;", ";",
            "b0,0;", "0", ",", "p100,0,1,0;", "p0,16,1,0;", "p0,0,0,0;", "p0,0,1,2;", "p0,0,1;", "p0,0,1,0,0;", "p0,0,1000,0;",
            "c0,5;", "c2,5;", "c1,0;", "c1,100;", "c1;", "c256,1;", "o2,0;", "o0,1;", "o0;", "k2,0;", "k0,1;", "k0,0,0;",
            "x0,0,5;", "x0,2,5;", "x2,0,5;", "x0,1,101;", "x0,1;", "m100;", "m1,1;", "m;", "t10;", "t1,1;", "f100;", "f;",
            "w1000,0;", "w0,100;", "w5;", "w5,5,5;", "a-1,0;", "a\u00b2,0;", "\u0000", "\u00ff", "a0.0;", "a0:0;", "a0/0;"
        };
        for (String b : bad) {
            dueFault(two + b, 19);
            dueFault(two + b + "m1;", 19);
        }
        dueFault("o0,0;" + two, 0);
        dueFault("a1,1;o0,0;p1,1,1,1;", 5);
        dueFault("p1,1,1,1;k0,0;", 9);
        dueFault("a1,1;x0,1,5;a1,1;", 5);
        dueFault("c1,1;p1,1,1,1;", 0);
        dueFault("p1,1,1,1;c3,1;p1,1,1,1;", 9);
        dueFault(times(10, "a1,1;"), NONE);
        dueFault(times(11, "a1,1;"), 50);
        dueFault(times(8, "p1,1,1,1;"), NONE);
        dueFault(times(9, "p1,1,1,1;"), 72);
        dueFault(times(8, "p1,1,1,1;") + "c255,9;", NONE);
        dueFault("p1,1,1,1;" + times(10, "c1,1;"), NONE);
        dueFault("p1,1,1,1;" + times(11, "c1,1;"), 59);
        dueFault("a1,1;p1,1,1,1;" + times(24, "k0,0;"), NONE);
        dueFault("a1,1;p1,1,1,1;" + times(25, "k0,0;"), 134);
        dueFault("a1,1;p1,1,1,1;" + times(40, "o0,0;"), NONE);
        dueFault("a1,1;a1,1;" + times(40, "x0,1,5;"), NONE);
        // just 400 bytes, whose last item has no end
        dueFault(times(98, "m01;") + "m0000007", 392);
        dueFault(times(99, "m01;") + "m007", 396);
        dueFault(times(99, "m01;") + "w01,", 396);
        dueFault(times(99, "m01;") + "m01;", NONE);
        // what was there ahead of a wipe is no end of an item
        OnByThursday x = new OnByThursday();
        put(x, "m1;m55;");
        x.wipe();
        put(x, "m1;m5");
        due("an old figure and ; behind", x.fault(), 3);
        x.wipe();
        put(x, "m1;m55");
        due("an old ; behind", x.fault(), 3);
    }

    private static void lay() {
        promise = 5;
        OnByThursday x = new OnByThursday();
        due("an empty text", x.lay(), NO);
        put(x, "a1,1;a2,2;");
        due("no part", x.lay(), NO);
        due("no part, no fault", x.fault(), NONE);
        due("the old company", x.count(0), 1);
        due("the old company", x.player(0, 0), 50);
        put(x, "p3,0,30,1;o1,0;");
        x.night(0);
        x.told(0, 7);
        x.keep();
        due("lay", x.lay(), 2);
        due("today", x.count(4), 0);
        due("kept", x.count(5), 0);
        due("owed", x.owed(0), 0);
        due("told", x.told(0, 7), 0);
        due("the text stays", x.count(3), 25);
        due("lines are new", x.lines(1, 0), 30);
        x.rest(9);
        x.keep();
        put(x, "?");
        due("a fault", x.lay(), NO);
        due("nothing changed", x.count(4), 9);
        due("nothing changed", x.count(5), 1);
        due("nothing changed", x.told(0, 7), 7);
        due("fault", x.fault(), 25);
        due("asking for the fault changes nothing", x.player(1, 0), 2);
        x.wipe();
        put(x, "p1,1,1,1;");
        due("no player", x.lay(), NO);
        // what is set in one company is without in the next
        OnByThursday y = laid("a1,0;a1,0;p1,0,100,1;p1,0,100,1;c1,1;c2,1;o0,0;k0,1;x0,1,50;m5;t9;f0;w1,99;");
        y.wipe();
        put(y, "a1,0;a1,0;p9,0,100,0;p1,0,100,0;c1,1;c2,1;k0,0;k0,1;");
        due("lay", y.lay(), 2);
        due("both", y.both(0, 1), 1);
        due("own", y.part(0, 5), NONE);
        due("cold", y.cold(1, 5, 1), 0);
        due("cuts", y.cuts(1, 0), NONE);
        due("trouble", y.night(0), 208);
        due("pay", y.owed(0), 200);
        due("lines", y.lines(0, 0), 90);
        y.rest(1);
        due("lines", y.lines(0, 0), 80);
    }

    private static void player() {
        promise = 6;
        OnByThursday x = laid("a60,5;a50,3;p1,4,1,0;p1,2,1,0;p1,0,1,0;o0,0;o0,1;k1,2;k1,0;o1,2;k0,2;");
        int[][] want = {{60, 5, 3, 4, 5}, {50, 3, 4, 5, 4}};
        for (int p = 0; p < 2; p++) {
            for (int what = 0; what < 5; what++) due("player " + p + " " + what, x.player(p, what), want[p][what]);
        }
        due("no such player", x.player(2, 0), BAD);
        due("no such player", x.player(-1, 0), BAD);
        due("no such what", x.player(0, 5), BAD);
        due("no such what", x.player(0, -1), BAD);
        due("far out", x.player(Integer.MIN_VALUE, Integer.MAX_VALUE), BAD);
        OnByThursday y = laid("a1,0;a1,0;p1,0,1,0;o0,0;o1,0;");
        due("the last owner told", y.player(0, 2), 0);
        due("the last owner told", y.player(1, 2), 1);
    }

    private static void part() {
        promise = 7;
        OnByThursday x = laid("a60,5;p11,12,130,1;p14,5,999,0;c1,5;c2,5;c3,5;o0,0;");
        int[][] want = {{11, 12, 130, 1, 5, 0}, {14, 5, 999, 0, 6, NONE}};
        for (int i = 0; i < 2; i++) {
            for (int what = 0; what < 6; what++) due("part " + i + " " + what, x.part(i, what), want[i][what]);
        }
        due("no such part", x.part(2, 0), BAD);
        due("no such part", x.part(-1, 0), BAD);
        due("no such what", x.part(0, 6), BAD);
        due("no such what", x.part(0, -1), BAD);
        due("far out", x.part(Integer.MAX_VALUE, Integer.MIN_VALUE), BAD);
        OnByThursday y = laid("a1,0;p1,0,1,0;" + times(10, "c1,1;"));
        due("ten scenes", y.part(0, 4), 1023);
    }

    private static void both() {
        promise = 8;
        String three = "a1,0;p1,0,1,0;p1,0,1,0;p1,0,1,0;";
        due("one scene", laid(three + "c3,9;").both(0, 1), 0);
        due("one of two scenes", laid(three + "c1,9;c3,9;").both(0, 1), 0);
        due("no change", laid(three + "c1,9;c2,9;").both(0, 1), 1);
        due("a change at once", laid(three + "c1,9;c2,9;m1;").both(0, 1), 0);
        due("just the minutes", laid(three + "c1,9;c4,5;c2,9;m5;").both(0, 1), 1);
        due("a minute more", laid(three + "c1,9;c4,5;c2,9;m6;").both(0, 1), 0);
        due("two scenes between", laid(three + "c2,9;c4,2;c4,3;c1,9;m5;").both(0, 1), 1);
        due("on in the same part between", laid(three + "c1,9;c1,9;c2,9;m5;").both(0, 1), 0);
        due("the later change", laid(three + "c1,9;c4,9;c2,9;c4,4;c1,1;m5;").both(0, 1), 0);
        due("the other way round", laid(three + "c1,9;c4,9;c2,9;c4,4;c1,1;m5;").both(1, 0), 0);
        due("never on", laid(three + "c1,9;m99;").both(0, 1), 1);
        OnByThursday x = laid(three);
        due("alike", x.both(1, 1), BAD);
        due("no such part", x.both(0, 3), BAD);
        due("no such part", x.both(3, 0), BAD);
        due("no such part", x.both(-1, 0), BAD);
        due("no such part", x.both(0, Integer.MIN_VALUE), BAD);
    }

    private static void ways() {
        promise = 9;
        String two = "a1,1;a1,1;a1,0;p1,1,9,1;p1,0,9,0;o0,0;o1,1;k1,0;k2,0;k0,1;k2,1;";
        OnByThursday apart = laid(two);
        due("2 times 3", apart.ways(0, 0), 6);
        due("0 off", apart.ways(1, 0), 2);
        due("0 and 1 off", apart.ways(3, 0), 0);
        due("0 and 1 off, 0 cut", apart.ways(3, 1), 1);
        due("all cut", apart.ways(7, 3), 1);
        due("what may not be cut", apart.ways(0, 2), 2);
        OnByThursday together = laid(two + "c3,9;");
        due("one scene", together.ways(0, 0), 4);
        due("one scene, cut", together.ways(0, 1), 3);
        due("off no player", apart.ways(8, 0), 0);
        due("off no player", apart.ways(-1, 0), 0);
        due("cut no part", apart.ways(0, 4), 0);
        due("cut no part", apart.ways(0, -1), 0);
        String many = times(4, "a1,0;") + times(8, "p1,0,9,0;");
        for (int i = 0; i < 8; i++) many += "o0," + i + ";k1," + i + ";k2," + i + ";k3," + i + ";";
        due("4 to the 8th", laid(many).ways(0, 0), 65536);
        // one player in three parts: between 0 and 1 there is time for a change, but 2 stands between
        OnByThursday third = laid("a1,0;p1,0,9,0;p1,0,9,0;p1,0,9,0;c1,1;c4,5;c2,1;m5;o0,0;o0,1;o0,2;");
        due("two of three", third.ways(0, 4), 1);
        due("all three", third.ways(0, 0), 0);
    }

    private static void least() {
        promise = 10;
        OnByThursday x = laid("a60,0;a50,0;a45,0;p55,0,100,1;p50,0,40,0;o0,0;k1,0;k2,0;k1,1;k2,1;t3;c3,9;");
        due("trouble", x.least(0, 0, -1), 100);
        due("part 0", x.least(0, 0, 0), 0);
        due("part 1", x.least(0, 0, 1), 1);
        due("others", x.least(0, 0, -2), 1);
        due("forgotten", x.least(0, 0, -3), 0);
        // 0 off: 1 and 2 as 115 and 115, or 2 and 1 as 130 and 100: of as much trouble the first
        due("0 off", x.least(1, 0, -1), 230);
        due("0 off", x.least(1, 0, 0), 1);
        due("0 off", x.least(1, 0, 1), 2);
        due("0 off", x.least(1, 0, -2), 2);
        x.rest(3);
        due("forgotten", x.least(0, 0, -3), 42);
        due("trouble", x.least(0, 0, -1), 142);
        due("part 0 cut", x.least(0, 1, 0), NO);
        due("part 0 cut", x.least(0, 1, 1), 1);
        due("part 0 cut", x.least(0, 1, -1), 112);
        due("part 0 cut", x.least(0, 1, -2), 1);
        due("all cut", x.least(7, 3, -1), 0);
        due("nobody", x.least(7, 0, -1), NONE);
        due("nobody", x.least(7, 0, 0), NONE);
        due("nobody, cut", x.least(7, 1, 0), NO);
        due("nobody, cut", x.least(7, 1, 1), NONE);
        due("what", x.least(0, 0, -4), BAD);
        due("what", x.least(0, 0, 2), BAD);
        due("off", x.least(8, 0, 0), BAD);
        due("off", x.least(-1, 0, 0), BAD);
        due("cut", x.least(0, 4, 0), BAD);
        due("cut", x.least(0, -1, 0), BAD);
        due("BAD ahead of NO", x.least(8, 1, 0), BAD);
        OnByThursday own = laid("a1,0;p99,0,10,0;o0,0;k0,0;t9;");
        due("its own, known too", own.least(0, 0, -1), 0);
    }

    private static void cuts() {
        promise = 11;
        OnByThursday x = laid("a1,0;a1,0;p1,0,50,1;p1,0,30,1;p1,0,20,1;p1,0,9,0;o0,0;o0,1;o0,2;o1,3;k0,3;c7,1;");
        due("two of three", x.cuts(0, 0), 6);
        due("two of three", x.cuts(0, 1), 50);
        due("all three", x.cuts(1, 0), 7);
        due("all three", x.cuts(1, 1), 100);
        due("1 off", x.cuts(2, 0), 6);
        due("3 may not be cut", x.cuts(3, 0), NONE);
        due("3 may not be cut", x.cuts(3, 1), NONE);
        due("off", x.cuts(4, 0), BAD);
        due("off", x.cuts(-1, 0), BAD);
        due("what", x.cuts(0, 2), BAD);
        due("what", x.cuts(0, -1), BAD);
        OnByThursday y = laid("a1,0;p1,0,50,1;p1,0,30,1;p1,0,20,1;o0,0;o0,1;o0,2;c3,1;c5,1;");
        due("of as many lines the least bits", y.cuts(0, 0), 1);
        due("of as many lines the least bits", y.cuts(0, 1), 50);
        due("none need be cut", laid("a1,0;p1,0,50,1;o0,0;").cuts(0, 0), 0);
        due("none need be cut", laid("a1,0;p1,0,50,1;o0,0;").cuts(0, 1), 0);
    }

    private static void lines() {
        promise = 12;
        OnByThursday x = laid("a1,1;a1,0;p1,1,199,0;p1,0,7,0;o0,0;k1,0;k1,1;f7;");
        due("today", x.lines(0, 0), 199);
        x.rest(1);
        due("a day", x.lines(0, 0), 185);
        due("a day", x.lines(1, 1), 6);
        x.rest(13);
        due("fourteen", x.lines(0, 0), 3);
        due("fourteen", x.lines(1, 1), 0);
        x.rest(1);
        due("fifteen", x.lines(0, 0), 0);
        due("no skill", x.lines(1, 0), NO);
        due("not known", x.lines(0, 1), NO);
        due("player", x.lines(2, 0), BAD);
        due("player", x.lines(-1, 0), BAD);
        due("part", x.lines(0, 2), BAD);
        due("part", x.lines(0, -1), BAD);
        OnByThursday f0 = laid("a1,0;p1,0,199,0;o0,0;f0;");
        f0.rest(99);
        due("nothing is forgotten", f0.lines(0, 0), 199);
    }

    private static void rehearse() {
        promise = 13;
        OnByThursday x = laid("a1,0;p1,0,1,0;p1,0,100,0;p1,0,101,0;p1,0,999,0;p1,1,5,0;o0,0;o0,1;k0,2;k0,3;k0,4;");
        x.rest(4);
        int[] hours = {1, 1, 2, 10};
        for (int i = 0; i < 4; i++) due("hours of " + i, x.rehearse(0, i), hours[i]);
        due("said", x.lines(0, 2), 101);
        due("no day goes by", x.count(4), 4);
        x.rest(1);
        due("a day since", x.lines(0, 1), 90);
        due("no skill", x.rehearse(0, 4), NO);
        due("player", x.rehearse(1, 0), BAD);
        due("player", x.rehearse(-1, 0), BAD);
        due("part", x.rehearse(0, 5), BAD);
        due("part", x.rehearse(0, -1), BAD);
        due("BAD ahead of NO", x.rehearse(1, 4), BAD);
    }

    private static void rehearsals() {
        promise = 14;
        OnByThursday x = laid("a1,0;a1,0;p1,0,200,0;p1,0,100,0;p1,0,100,0;o0,0;o1,1;k0,1;k1,2;");
        due("nothing forgotten", x.rehearsals(99, -1), 0);
        due("nothing forgotten", x.rehearsals(99, -2), 0);
        due("nothing forgotten", x.rehearsals(99, -3), 0);
        due("nothing forgotten", x.rehearsals(99, 0), NONE);
        x.rest(1);
        // pairs 0/0: 20 in 2 hours, 0/1, 1/1, 1/2: 10 in 1 hour each
        int[][] want = {{0, 0, 0}, {10, 1, 1}, {20, 2, 1}, {30, 3, 2}, {40, 4, 3}, {50, 5, 4}, {50, 5, 4}};
        for (int h = 0; h < 7; h++) {
            for (int what = 0; what < 3; what++) due(h + " hours " + what, x.rehearsals(h, -1 - what), want[h][what]);
        }
        due("first in one hour", x.rehearsals(1, 0), 1);
        due("first in two", x.rehearsals(2, 0), 0);
        due("second in two", x.rehearsals(2, 1), NONE);
        due("second in three", x.rehearsals(3, 1), 1);
        due("third in four", x.rehearsals(4, 2), 11);
        due("fourth in five", x.rehearsals(5, 3), 12);
        due("fifth in five", x.rehearsals(5, 4), NONE);
        due("far on", x.rehearsals(5, Integer.MAX_VALUE), NONE);
        due("hours", x.rehearsals(100, -1), BAD);
        due("hours", x.rehearsals(-1, -1), BAD);
        due("what", x.rehearsals(5, -4), BAD);
        due("what", x.rehearsals(5, Integer.MIN_VALUE), BAD);
        due("nothing is said by asking", x.lines(0, 0), 180);
        // of as many lines the fewest hours: 150 and 150 take four, 300 takes three
        OnByThursday y = laid("a1,0;p1,0,150,0;p1,0,150,0;p1,0,300,0;o0,0;o0,1;o0,2;f99;");
        y.rest(2);
        due("300 lines", y.rehearsals(4, -1), 300);
        due("300 lines", y.rehearsals(4, -2), 3);
        due("300 lines", y.rehearsals(4, 0), 2);
        // of as many lines and hours the set with the first pair
        OnByThursday z = laid("a1,0;p1,0,101,0;p1,0,91,0;p1,0,10,0;o0,0;o0,1;o0,2;f99;");
        z.rest(2);
        due("101 lines", z.rehearsals(2, -1), 101);
        due("101 lines", z.rehearsals(2, -3), 1);
        due("101 lines", z.rehearsals(2, 0), 0);
        OnByThursday w = laid("a1,0;p1,0,91,0;p1,0,101,0;p1,0,10,0;o0,0;o0,1;o0,2;f99;");
        w.rest(2);
        due("91 and 10 lines", w.rehearsals(2, -3), 2);
        due("91 and 10 lines", w.rehearsals(2, 1), 2);
        String many = times(4, "a1,0;") + times(8, "p1,0,300,0;") + "f99;";
        for (int i = 0; i < 8; i++) many += "o0," + i + ";k1," + i + ";k2," + i + ";k3," + i + ";";
        OnByThursday all = laid(many);
        all.rest(2);
        due("all pairs there can be", all.rehearsals(99, -1), 9600);
        due("all pairs there can be", all.rehearsals(99, -2), 96);
        due("all pairs there can be", all.rehearsals(99, 31), 37);
        due("all pairs there can be", all.rehearsals(99, 32), NONE);
        due("one less", all.rehearsals(95, -3), 31);
        due("the last one is left out", all.rehearsals(95, 30), 36);
    }

    private static void rest() {
        promise = 15;
        OnByThursday x = new OnByThursday();
        due("1", x.rest(1), 1);
        due("99", x.rest(99), 100);
        due("0", x.rest(0), BAD);
        due("100", x.rest(100), BAD);
        due("-1", x.rest(-1), BAD);
        due("today", x.count(4), 100);
    }

    private static void cold() {
        promise = 16;
        OnByThursday x = laid("a1,0;a1,0;a1,0;p1,0,9,0;o0,0;k1,0;x0,1,50;x0,2,33;x1,2,10;");
        due("day 0", x.cold(5, 0, 0), 1000000);
        due("day 0", x.cold(5, 0, 1), 0);
        due("day 0", x.cold(5, 0, 11), 5);
        due("day 0", x.cold(5, 0, 12), 1000000);
        due("one day", x.cold(1, 1, 1), 500000);
        due("one day", x.cold(1, 1, 2), 330000);
        due("one day", x.cold(1, 1, 11), 1);
        due("one day", x.cold(1, 1, 12), 335000);
        due("met", x.cold(1, 1, 10), 500000);
        // {0} 335000, {0, 1} 335000, {0, 2} 165000, all 165000 as the second day begins
        due("two days", x.cold(1, 2, 1), 1000000 - 167500 - 74250);
        due("two days", x.cold(1, 2, 11), 7);
        due("two days", x.cold(1, 2, 12), 55275 + 132995 + 90750 + 165000);
        due("nobody has it", x.cold(0, 14, 10), 1000000);
        due("nobody has it", x.cold(0, 14, 11), 0);
        due("all have it", x.cold(7, 14, 10), 0);
        due("all have it", x.cold(7, 14, 11), 7);
        due("fewer days again", x.cold(1, 1, 12), 335000);
        due("of several the least", laid("a1,0;a1,0;p1,0,9,0;o0,0;x0,1,50;").cold(1, 1, 11), 1);
        OnByThursday sure = laid("a1,0;a1,0;p1,0,9,0;o0,0;x0,1,100;");
        due("surely", sure.cold(2, 1, 11), 3);
        due("surely", sure.cold(2, 1, 12), 1000000);
        due("the last told", laid("a1,0;a1,0;p1,0,9,0;x0,1,100;x1,0,7;").cold(1, 1, 1), 70000);
        // a third stays well by 67 of 100, and again: 0.67 * 0.67 is cut at each
        OnByThursday cut = laid("a1,0;a1,0;a1,0;a1,0;a1,0;p1,0,9,0;x0,4,33;x1,4,33;x2,4,33;x3,4,33;");
        due("cut at each", cut.cold(15, 1, 4), 1000000 - 201511);
        due("player", x.cold(1, 1, 3), BAD);
        due("what", x.cold(1, 1, 13), BAD);
        due("what", x.cold(1, 1, -1), BAD);
        due("days", x.cold(1, 15, 0), BAD);
        due("days", x.cold(1, -1, 0), BAD);
        due("had", x.cold(8, 1, 0), BAD);
        due("had", x.cold(-1, 1, 0), BAD);
    }

    private static void weak() {
        promise = 17;
        OnByThursday x = laid("a1,0;a1,0;a1,0;a1,0;p1,0,9,0;p1,0,9,0;o1,0;k2,0;o3,1;");
        due("one", x.weak(1, 0), 1);
        due("one", x.weak(1, 1), 8);
        due("two", x.weak(2, 0), 4);
        due("two", x.weak(2, 1), 6);
        OnByThursday y = laid("a1,0;a1,0;p1,0,9,0;o0,0;k1,0;");
        due("none of one", y.weak(1, 0), 0);
        due("none of one", y.weak(1, 1), NONE);
        due("both", y.weak(2, 0), 1);
        due("both", y.weak(2, 1), 3);
        due("k", x.weak(0, 0), BAD);
        due("k", x.weak(3, 0), BAD);
        due("what", x.weak(1, 2), BAD);
        due("what", x.weak(1, -1), BAD);
        OnByThursday alone = new OnByThursday();
        due("no two", alone.weak(2, 0), 0);
        due("no two", alone.weak(2, 1), NONE);
    }

    private static void engaged() {
        promise = 18;
        OnByThursday x = laid("a1,1;a1,1;a1,0;a1,1;p1,1,9,0;p1,0,9,0;o0,0;k1,0;o1,1;c3,1;");
        // weak of one: 0 (1 can't be both), 1; 2 to KNOW part 1 meets both
        due("weak", x.weak(1, 0), 2);
        due("first", x.engaged(1, 0), 21);
        due("then", x.engaged(1, 1), 0);
        // weak of two: 0 with 1, 2, 3, and 1 with 2, 3
        due("weak", x.weak(2, 0), 5);
        due("first", x.engaged(2, 0), 21);
        due("then", x.engaged(2, 1), 3);
        due("asked again", x.engaged(1, 0), 21);
        due("nothing is engaged", x.player(2, 3), 0);
        OnByThursday all = laid("a1,0;a1,0;p1,0,9,0;p1,1,9,0;o0,0;k1,0;");
        due("no cover", all.engaged(1, 0), NONE);
        due("no cover", all.engaged(1, 1), NONE);
        OnByThursday none = laid("a1,0;a1,0;p1,0,9,0;o1,0;");
        due("the first that is not its own", none.engaged(2, 0), 0);
        due("still weak", none.engaged(2, 1), 1);
        due("k", x.engaged(0, 0), BAD);
        due("k", x.engaged(3, 0), BAD);
        due("what", x.engaged(1, 2), BAD);
        due("what", x.engaged(1, -1), BAD);
        due("BAD ahead of NONE", all.engaged(3, 0), BAD);
    }

    private static void fewest() {
        promise = 19;
        String three = "a1,0;a1,0;a1,0;";
        due("none needed", laid(three + "p1,0,9,0;o0,0;k1,0;k2,0;").fewest(), 0);
        due("one", laid(three + "p1,0,9,0;o0,0;k1,0;").fewest(), 1);
        due("two", laid(three + "p1,0,9,0;o0,0;").fewest(), 2);
        due("three", laid(three + "p1,0,9,0;").fewest(), NONE);
        due("two of several parts", laid(three + "p1,0,9,0;p1,0,9,0;o0,0;k1,0;o2,1;k1,1;").fewest(), 2);
        String clashing = times(4, "a1,0;") + "p1,0,9,0;p1,0,9,0;c3,1;o0,0;o0,1;k1,1;k1,0;";
        due("two that are needed at once", laid(clashing).fewest(), 2);
        // with 0 and 1 off both covers of 3 are needed at once: part 0 has nobody, and 2 can't be 1 and 2
        String ofOne = "a1,3;a1,3;a1,1;a1,2;p1,2,9,0;p1,0,9,0;p1,1,9,0;o0,0;k1,0;o0,1;k1,1;k2,1;o0,2;k1,2;k2,2;c6,1;";
        due("two covers of one player", laid(ofOne).fewest(), 2);
        due("two covers of one player that can't have both", laid(ofOne + "c3,1;").fewest(), NONE);
        due("two covers that are off", laid(three + "p1,0,9,0;p1,0,9,0;o0,0;o2,1;k0,1;").fewest(), NONE);
        due("no cover has the skill", laid(three + "p1,1,9,0;o0,0;").fewest(), NONE);
        due("two players off leave nobody", laid("a1,0;a1,0;p1,0,9,0;o0,0;").fewest(), NONE);
        due("one player", new OnByThursday().fewest(), 0);
        OnByThursday x = laid(three + "p1,0,9,0;o0,0;");
        x.engaged(2, 0);
        x.engaged(1, 0);
        due("behind other questions", x.fewest(), 2);
        due("again", x.fewest(), 2);
    }

    private static void night() {
        promise = 20;
        OnByThursday x = laid("a60,0;a50,0;p60,0,200,0;p50,0,45,0;o0,0;k1,0;k0,1;o1,1;w100,7;");
        due("all on", x.night(0), 0);
        due("next day", x.count(4), 1);
        due("owed", x.owed(0), 100);
        // 1 says both: 110 and 20 forgotten, and 5 of its own
        due("0 off", x.night(1), 135);
        due("7 for ten of 200", x.owed(1), 100 + 100 + 140);
        due("0 is off", x.owed(0), 100);
        due("1 said it yesterday", x.lines(1, 0), 180);
        due("0 said it two days ago", x.lines(0, 0), 160);
        due("1 off", x.night(2), 40 + 100 + 10 + 9);
        due("31 and a half, cut", x.owed(0), 100 + 100 + 31);
        due("all off", x.night(3), NONE);
        due("nothing changed", x.count(4), 3);
        due("nothing changed", x.owed(0), 231);
        due("off", x.night(4), BAD);
        due("off", x.night(-1), BAD);
        due("off", x.night(Integer.MIN_VALUE), BAD);
        OnByThursday two = laid("a1,0;a1,0;p1,0,5,0;p1,0,5,0;o1,0;o1,1;k0,0;k0,1;w0,3;");
        two.night(2);
        due("lines together, then cut", two.owed(0), 3);
        due("who is not on has nothing", two.owed(1), 0);
    }

    private static void owed() {
        promise = 21;
        OnByThursday x = laid("a1,0;a1,0;p1,0,99,0;o0,0;w50,99;");
        due("nothing", x.owed(0), 0);
        x.night(0);
        x.night(2);
        due("two nights", x.owed(0), 100);
        due("never on", x.owed(1), 0);
        due("player", x.owed(2), BAD);
        due("player", x.owed(-1), BAD);
    }

    private static void told() {
        promise = 22;
        OnByThursday x = laid("a1,0;a1,0;p1,0,99,0;o0,0;");
        due("at first", x.told(0, 99999), 0);
        due("then", x.told(0, 0), 99999);
        due("then", x.told(0, 5), 0);
        due("the other", x.told(1, 6), 0);
        due("sum", x.told(0, 100000), BAD);
        due("sum", x.told(0, -1), BAD);
        due("player", x.told(2, 0), BAD);
        due("player", x.told(-1, 0), BAD);
        due("nothing changed", x.told(0, 5), 5);
    }

    private static void wrong() {
        promise = 23;
        OnByThursday x = laid("a1,0;a1,0;p1,0,99,0;o1,0;");
        due("nothing owed, nothing told", x.wrong(), NONE);
        x.night(0);
        due("1 is owed", x.wrong(), 1);
        x.told(1, 100);
        due("told", x.wrong(), NONE);
        x.told(0, 1);
        due("too much told", x.wrong(), 0);
    }

    private static void run() {
        promise = 24;
        OnByThursday x = laid("a1,0;a1,0;a1,0;p1,0,99,0;o0,0;k1,0;");
        x.rest(3);
        due("nobody off", x.run(20, 0, 0), 20);
        due("one night", x.run(1, 0, 7), 1);
        // (0 + i) 37: 0, 37, 74, 111: the last two bits are 0, 1, 2, 3
        due("till 0 and 1 are off", x.run(20, 0, 3), 3);
        due("from 2 on", x.run(20, 2, 3), 1);
        due("from 3 on", x.run(20, 3, 3), 0);
        due("modulo 1024", x.run(20, 999, 3), 0);
        due("only 0", x.run(20, 999, 1), 20);
        due("as it was", x.count(4), 3);
        due("as it was", x.owed(0), 0);
        due("as it was", x.lines(0, 0), 69);
        due("n", x.run(0, 0, 0), BAD);
        due("n", x.run(21, 0, 0), BAD);
        due("z", x.run(1, -1, 0), BAD);
        due("z", x.run(1, 1000, 0), BAD);
        due("mask", x.run(1, 0, 8), BAD);
        due("mask", x.run(1, 0, -1), BAD);
    }

    private static void keepAndBack() {
        promise = 26;
        OnByThursday x = laid("a1,0;p1,0,100,0;o0,0;");
        due("nothing kept", x.back(), NO);
        promise = 25;
        due("first", x.keep(), 1);
        x.night(0);
        x.rest(4);
        x.rehearse(0, 0);
        due("second", x.keep(), 2);
        due("third", x.keep(), FULL);
        promise = 26;
        x.rest(2);
        x.night(0);
        x.told(0, 5);
        due("second", x.back(), 1);
        due("today", x.count(4), 5);
        due("owed", x.owed(0), 100);
        due("said", x.lines(0, 0), 100);
        due("told is not kept", x.told(0, 5), 5);
        due("kept", x.count(5), 1);
        promise = 25;
        x.rest(1);
        due("second again", x.keep(), 2);
        x.rest(1);
        promise = 26;
        due("second again", x.back(), 1);
        due("today", x.count(4), 6);
        due("first", x.back(), 0);
        due("today", x.count(4), 0);
        due("owed", x.owed(0), 0);
        x.rest(1);
        due("said", x.lines(0, 0), 90);
        due("no more", x.back(), NO);
        due("nothing changed", x.count(4), 1);
    }

    private static void count() {
        promise = 27;
        OnByThursday x = laid("a1,0;a1,0;a1,0;p1,0,9,0;p1,0,9,0;c1,1;k0,0;k0,0;k1,1;k2,1;");
        x.rest(8);
        x.keep();
        int[] want = {3, 2, 1, 58, 8, 1, 4};
        for (int what = 0; what < 7; what++) due("count " + what, x.count(what), want[what]);
        due("what", x.count(7), BAD);
        due("what", x.count(-1), BAD);
        due("what", x.count(Integer.MIN_VALUE), BAD);
    }
}
