/** The edges of nights and pay: night, owed, told, wrong, run, keep, back and count. */
public final class NightEdgesTest {
    private static final int BAD = Stage.BAD, NO = Stage.NO, FULL = Stage.FULL, NONE = Stage.NONE;
    private static final String TEN_PLAYERS = "a1,0;".repeat(10);

    public static void main(String[] args) {
        whoIsOff();
        notMet();
        pay();
        saidAndNextDay();
        longTour();
        owed();
        told();
        wrong();
        numbersOfRun();
        nightsOfRun();
        runChangesNothing();
        keep();
        back();
        whatIsKept();
        count();
        nothingChanges();
        Stage.end();
    }

    private static void whoIsOff() {
        Stage.says("promise 20", "BAD: sets of PLAYERS such as there are");
        for (int players = 1; players <= 10; players++) {
            int all = (1 << players) - 1;
            Stage.of("a1,0;".repeat(players) + "p1,0,9,0;o0,0;f0;").due("night(0)", 0).due("night(" + (all - 1) + ")", 0)
                .due("night(" + all + ")", NONE)
                .dueAll("night(#)", BAD, Integer.toString(all + 1), "-1", "-2", "1024", "1073741824", "MIN", "MAX")
                .due("count(4)", 2).due("owed(0)", 200);
        }
        Stage.says("BAD .. NONE", "of several the first in this order");
        Stage.of("a1,0;p1,0,9,0;").due("night(0)", NONE).due("night(2)", BAD).due("night(3)", BAD).due("night(-1)", BAD);
    }

    private static void notMet() {
        Stage.says("promise 20", "NONE: not MET");
        Stage.of("a1,0;a1,0;p1,0,9,0;p1,0,9,0;o0,0;o1,1;").due("night(#)", 0, NONE, NONE, NONE).due("count(4)", 1)
            .due("owed(#)", 100, 100);
        Stage.says("part 4", "LEAST is played (nothing CUT)");
        Stage.of("a1,0;a1,0;p1,0,9,1;p1,0,9,1;o0,0;o1,1;").due("night(#)", 0, NONE, NONE, NONE);
        Stage.says("promise 20", "A NIGHT: TROUBLE (ahead of it)");
        Stage.of("a1,0;p1,0,100,0;o0,0;f50;").then("rest(1)").due("night(0)", 50).due("night(0)", 50).then("rest(2)")
            .due("night(0)", 100);
    }

    private static void duePay(String items, long... wants) {
        Stage.of(items).then("night(0)").due("owed(#)", wants);
    }

    private static void pay() {
        Stage.says("part 4", "B for each that is on");
        duePay("a1,0;a1,0;a1,0;p1,0,9,0;p1,0,9,0;o0,0;o2,1;w0,0;", 0, 0, 0);
        duePay("a1,0;a1,0;a1,0;p1,0,9,0;p1,0,9,0;o0,0;o2,1;w999,99;", 999, 0, 999);
        Stage.says("part 4", "B once, though it has several PARTS");
        duePay("a1,0;p1,0,9,0;p1,0,9,0;p1,0,9,0;o0,0;o0,1;o0,2;w70,99;", 70);
        Stage.says("part 4", "for its PARTS that are not its OWN");
        duePay("a1,0;p1,0,100,0;o0,0;w70,10;", 70);
        duePay("a1,0;p1,0,100,0;k0,0;w70,10;", 170);
        duePay("a1,0;p1,0,100,0;o0,0;k0,0;w70,10;", 70);
        duePay("a1,0;p1,0,100,0;p1,0,30,0;o0,0;k0,1;w70,10;", 100);
        duePay("a1,0;a1,0;p1,0,100,0;p1,0,30,0;o0,0;o1,1;w70,10;", 70, 70);
        Stage.says("part 4", "(L times their LINES together) by 10, cut");
        duePay("a1,0;p1,0,9,0;k0,0;w0,1;", 0);
        duePay("a1,0;p1,0,10,0;k0,0;w0,1;", 1);
        duePay("a1,0;p1,0,19,0;k0,0;w0,1;", 1);
        duePay("a1,0;p1,0,20,0;k0,0;w0,1;", 2);
        duePay("a1,0;p1,0,999,0;k0,0;w0,0;", 0);
        duePay("a1,0;p1,0,999,0;k0,0;w0,99;", 9890);
        duePay("a1,0;p1,0,1,0;k0,0;w0,9;", 0);
        duePay("a1,0;p1,0,1,0;k0,0;w0,10;", 1);
        Stage.says("part 4", "their LINES together: cut once");
        duePay("a1,0;p1,0,5,0;p1,0,5,0;k0,0;k0,1;w0,1;", 1);
        duePay("a1,0;p1,0,5,0;p1,0,4,0;k0,0;k0,1;w0,1;", 0);
        duePay("a1,0;p1,0,5,0;p1,0,5,0;k0,0;o0,1;w0,1;", 0);
        duePay("a1,0;a1,0;p1,0,5,0;p1,0,5,0;k0,0;k1,1;w0,1;", 0, 0);
        Stage.says("part 4", "a PLAYER is on in a PART that is on in no SCENE, and in one that is");
        duePay("a1,0;a1,0;p1,0,5,0;p1,0,5,0;o0,0;o1,1;c1,1;", 100, 100);
    }

    private static void saidAndNextDay() {
        Stage.says("part 4", "each PLAYER on says its PARTS (SAID today); then it is the next DAY");
        Stage s = Stage.of("a1,0;a1,0;p1,0,100,0;p1,0,100,0;o0,0;k1,0;k0,1;o1,1;").then("rest(3)").due("night(2)", 160)
            .due("count(4)", 4);
        s.due("lines(0, #)", 90, 90).due("lines(1, #)", 60, 60);
        Stage.says("part 4", "it says all its PARTS, and those only");
        s.due("night(0)", 50).due("count(4)", 5).due("lines(0, #)", 90, 80).due("lines(1, #)", 50, 90);
        Stage.says("part 4", "the last of ten PLAYERS in the last of eight PARTS");
        String last = TEN_PLAYERS + "p1,0,100,0;".repeat(8);
        for (int i = 0; i < 8; i++) {
            last += "o" + (i + 2) + "," + i + ";";
        }
        Stage.of(last + "c255,1;").then("rest(5)").due("night(3)", 400).due("lines(9, 7)", 90).due("lines(2, 0)", 90)
            .due("owed(#)", 0, 0, 100, 100, 100, 100, 100, 100, 100, 100).due("owed(10)", BAD);
    }

    private static void longTour() {
        Stage.says("part 4", "as many NIGHTS as the calls allow, at the most pay");
        String dear = "a0,0;" + "p99,0,999,0;".repeat(8) + "w999,99;t9;";
        for (int i = 0; i < 8; i++) {
            dear += "k0," + i + ";";
        }
        Stage s = Stage.of(dear);
        int each = 999 + 99 * 7992 / 10;
        for (int n = 0; n < 400; n++) {
            s.then("night(0)");
        }
        s.due("owed(0)", 400L * each).due("count(4)", 400).due("wrong()", 0).due("lines(0, 0)", 899);
    }

    private static void owed() {
        Stage.says("promise 21", "OWED to a PLAYER. BAD");
        for (int players = 1; players <= 10; players++) {
            Stage.of("a1,0;".repeat(players) + "p1,0,9,0;o" + (players - 1) + ",0;").due("owed(" + (players - 1) + ")", 0)
                .then("night(0)")
                .due("owed(" + (players - 1) + ")", 100)
                .dueAll("owed(#)", BAD, Integer.toString(players), "-1", "10", "MIN", "MAX");
        }
        Stage.says("part 4", "what a PLAYER's PAY is in all NIGHTS: a refused one is none");
        Stage.of("a1,0;p1,0,9,0;o0,0;w7,0;").then("night(0)").due("night(1)", NONE).due("night(2)", BAD).then("night(0)")
            .due("owed(0)", 14).then("rest(99)").due("owed(0)", 14);
    }

    private static void told() {
        Stage.says("promise 22", "A sum (0 to 99999)");
        Stage.empty().due("told(0, 99999)", 0).due("told(0, 0)", 99999).due("told(0, 1)", 0)
            .dueAll("told(0, #)", BAD, "100000", "-1", "MIN", "MAX")
            .due("told(0, 99998)", 1).due("told(0, 7)", 99998);
        Stage.says("promise 22", "(0 at first): what it was; of each PLAYER its own");
        Stage.of(TEN_PLAYERS + "p1,0,9,0;").due("told(#, 5)", 0, 0, 0, 0, 0, 0, 0, 0, 0, 0, BAD)
            .due("told(#, 6)", 5, 5, 5, 5, 5, 5, 5, 5, 5, 5, BAD);
        Stage.says("promise 22", "BAD: PLAYERS such as there are");
        for (int players = 1; players <= 10; players++) {
            Stage.of("a1,0;".repeat(players) + "p1,0,9,0;").due("told(" + (players - 1) + ", 3)", 0)
                .dueAll("told(#, 3)", BAD, Integer.toString(players), "-1", "10", "MIN", "MAX");
        }
        Stage.says("promise 22", "BAD: nothing is TOLD then");
        Stage.empty().then("night(0)").then("told(0, 100)").due("told(0, 100000)", BAD).due("told(1, 5)", BAD)
            .due("wrong()", NONE).due("told(0, 0)", 100);
    }

    private static void wrong() {
        Stage.says("promise 23", "NONE");
        Stage.of(TEN_PLAYERS + "p1,0,9,0;o9,0;").due("wrong()", NONE).then("night(0)").then("told(9, 100)").due("wrong()", NONE);
        Stage.says("promise 23", "OWED another sum than TOLD: one less, one more");
        Stage.empty().then("night(0)").then("told(0, 99)").due("wrong()", 0).then("told(0, 101)").due("wrong()", 0)
            .then("told(0, 100)").due("wrong()", NONE);
        Stage.empty().then("told(0, 1)").due("wrong()", 0).then("told(0, 0)").due("wrong()", NONE);
        Stage.says("promise 23", "The first PLAYER: the last alone, then one ahead of it");
        Stage s = Stage.of(TEN_PLAYERS + "p1,0,9,0;o9,0;").then("night(0)").due("wrong()", 9).then("told(4, 1)")
            .due("wrong()", 4);
        s.then("told(0, 99999)").due("wrong()", 0).then("told(0, 0)").due("wrong()", 4).then("told(4, 0)").due("wrong()", 9);
        Stage.says("promise 23", "TOLD is not KEPT: a sum that came right is wrong again");
        Stage.empty().then("keep()").then("night(0)").then("told(0, 100)").due("wrong()", NONE).then("back()").due("wrong()", 0);
    }

    private static void numbersOfRun() {
        Stage.says("part 4", "RUN of n NIGHTS (1 to 20)");
        Stage.empty().dueAll("run(#, 0, 0)", BAD, "0", "21", "-1", "MIN", "MAX");
        for (int n = 1; n <= 20; n++) {
            Stage.empty().due("run(" + n + ", 0, 0)", n);
        }
        Stage.says("part 4", "(z 0 to 999)");
        Stage.empty().due("run(5, 0, 0)", 5).due("run(5, 999, 0)", 5).dueAll("run(5, #, 0)", BAD, "-1", "1000", "MIN", "MAX");
        Stage.says("part 4", "a MASK: sets of PLAYERS such as there are");
        for (int players = 1; players <= 10; players++) {
            int all = (1 << players) - 1;
            Stage.of("a1,0;".repeat(players) + "p1,0,9,1;").due("run(5, 0, " + all + ")", 0).due("run(5, 0, 0)", 0)
                .dueAll("run(5, 0, #)", BAD, Integer.toString(all + 1), "-1", "1024", "1073741824", "MIN", "MAX");
        }
    }

    /** The player is OFF in the first night whose number has its bit. */
    private static int nightsTill(int n, int z, int player) {
        for (int i = 0; i < n; i++) {
            int bits = (z + i) * 37;
            while (bits >= 1024) {
                bits -= 1024;
            }
            if ((bits >> player) % 2 == 1) {
                return i;
            }
        }
        return n;
    }

    private static void nightsOfRun() {
        Stage.says("part 4", "on NIGHT i (0 first) the bits of ((z and i) times 37) modulo 1024 and a MASK together");
        for (int p = 0; p < 10; p++) {
            Stage s = Stage.of(TEN_PLAYERS + "p1,0,9,0;o" + p + ",0;");
            for (int z : new int[] {0, 1, 13, 14, 27, 28, 55, 56, 83, 500, 511, 512, 979, 980, 998, 999}) {
                s.due("run(20, " + z + ", " + (1 << p) + ")", nightsTill(20, z, p))
                    .due("run(20, " + z + ", 1023)", nightsTill(20, z, p));
                s.due("run(20, " + z + ", " + (1023 - (1 << p)) + ")", 20).due("run(1, " + z + ", 1023)", nightsTill(1, z, p));
            }
        }
        Stage.says("part 4", "modulo 1024: 27 times 37 is 999, 28 times 37 is 12");
        Stage last = Stage.of(TEN_PLAYERS + "p1,0,9,0;o9,0;").due("run(20, 27, 512)", 0).due("run(1, 28, 512)", 1)
            .due("run(20, 26, 512)", 0).due("run(20, 13, 512)", 1);
        last.due("run(20, 28, 512)", 14).due("run(14, 28, 512)", 14).due("run(15, 28, 512)", 14);
        Stage.says("part 4", "till one is not MET: how many NIGHTS (none, all)");
        Stage two = Stage.of("a1,0;a1,0;p1,0,9,0;o0,0;k1,0;");
        two.due("run(20, 0, 3)", 3).due("run(3, 0, 3)", 3).due("run(4, 0, 3)", 3).due("run(20, 3, 3)", 0)
            .due("run(1, 3, 3)", 0).due("run(20, 0, 1)", 20);
        Stage.says("part 4", "nothing CUT");
        Stage.of("a1,0;p1,0,9,1;o0,0;").due("run(20, 0, 1)", 1).due("run(20, 1, 1)", 0);
    }

    private static Stage onTour() {
        return Stage.of("a60,3;a50,1;a40,0;p55,1,300,1;p45,0,120,0;c1,9;c2,9;o0,0;k1,0;o1,1;k2,1;k0,1;x0,1,50;f7;")
            .then("rest(2)").then("night(4)").then("keep()").then("rest(1)").then("night(1)").then("told(1, 77)");
    }

    private static void runChangesNothing() {
        Stage.says("part 4", "all is as it was behind that");
        Stage.refused(NightEdgesTest::onTour, "run(20, 0, 0)", 20);
        Stage.refused(NightEdgesTest::onTour, "run(20, 0, 4)", 20);
        Stage.refused(NightEdgesTest::onTour, "run(20, 0, 3)", 3);
        Stage.refused(NightEdgesTest::onTour, "run(1, 3, 3)", 0);
    }

    private static void keep() {
        Stage.says("part 4", "KEPT .. 2 at most");
        Stage.empty().due("count(5)", 0).due("keep()", 1).due("count(5)", 1).due("keep()", 2).due("count(5)", 2)
            .due("keep()", FULL).due("keep()", FULL).due("count(5)", 2);
        Stage.says("promise 25", "one that is back leaves room for another");
        Stage.empty().then("keep()").then("keep()").due("back()", 1).due("keep()", 2).due("keep()", FULL).due("back()", 1)
            .due("back()", 0).due("keep()", 1);
        Stage.says("promise 25", "FULL: the second stays KEPT");
        Stage.empty().then("keep()").then("rest(1)").then("keep()").then("rest(1)").due("keep()", FULL).due("count(4)", 2)
            .due("back()", 1)
            .due("count(4)", 1).due("back()", 0).due("count(4)", 0);
    }

    private static void back() {
        Stage.says("promise 26", "NO");
        Stage.empty().due("back()", NO).then("rest(3)").due("back()", NO).due("count(4)", 3).due("count(5)", 0)
            .due("keep()", 1).due("back()", 0).due("back()", NO);
        Stage.says("promise 26", "As KEPT last (it is KEPT no more then): how many are left");
        Stage s = Stage.empty().then("rest(1)").then("keep()").then("rest(2)").then("keep()").then("rest(4)");
        s.due("back()", 1).due("count(4)", 3).due("count(5)", 1).then("rest(8)").due("back()", 0).due("count(4)", 1)
            .due("count(5)", 0).due("back()", NO).due("count(4)", 1);
        Stage.says("promise 26", "what comes behind a back is not KEPT");
        Stage.empty().then("keep()").then("keep()").then("back()").then("rest(5)").then("night(0)").due("back()", 0)
            .due("count(4)", 0).due("owed(0)", 0)
            .then("rest(1)").due("lines(0, 0)", 9);
    }

    private static void whatIsKept() {
        Stage.says("part 4", "KEPT are SAID, today, OWED");
        String all = TEN_PLAYERS + "p1,0,100,0;".repeat(8) + "o0,0;o9,1;o8,2;o7,3;o6,4;o5,5;o4,6;o9,7;k0,7;";
        Stage s = Stage.of(all).then("rest(1)").then("night(0)").then("keep()").then("rest(3)").then("night(1)").then("keep()");
        s.due("back()", 1).due("back()", 0).due("count(4)", 2).due("lines(9, 7)", 90).due("lines(0, 0)", 90)
            .due("lines(0, 7)", 80)
            .due("owed(#)", 100, 0, 0, 0, 100, 100, 100, 100, 100, 100);
        Stage.says("part 4", "not TOLD, THE TEXT, the company");
        Stage.empty().put("a1,").then("keep()").then("told(0, 8)").put("1;").due("back()", 0).due("told(0, 9)", 8)
            .due("count(3)", 5).due("fault()", NONE);
        Stage.says("promise 5", "with a company that is LAID nothing is KEPT");
        Stage.empty().put("a1,1;p1,1,1,1;").then("keep()").then("keep()").due("lay()", 1).due("count(5)", 0)
            .due("back()", NO).due("keep()", 1).due("keep()", 2).due("keep()", FULL);
    }

    private static void count() {
        Stage.says("promise 27", "How many: 0 to 6. BAD");
        Stage.empty().due("count(#)", 1, 1, 0, 0, 0, 0, 0, BAD).dueAll("count(#)", BAD, "-1", "7", "8", "MIN", "MAX");
        Stage.says("promise 27", "each at its most");
        String most = TEN_PLAYERS + "p1,0,1,0;".repeat(8) + "c1,1;".repeat(10) + "k0,0;".repeat(24) + "m01;".repeat(27);
        Stage.of(most).then("rest(99)").then("keep()").then("keep()").due("count(#)", 10, 8, 10, 400, 99, 2, 24, BAD);
        Stage.says("promise 27", "3 bytes of THE TEXT: not of the company that is LAID");
        Stage.of("a1,0;p1,0,1,0;").due("count(3)", 14).then("wipe()").due("count(#)", 1, 1, 0, 0).put("a")
            .due("count(#)", 1, 1, 0, 1);
        Stage.says("promise 27", "6 covers (k): not o, and each k that is told");
        Stage.of("a1,0;a1,0;p1,0,1,0;o0,0;o1,0;").due("count(6)", 0);
        Stage.of("a1,0;a1,0;p1,0,1,0;o0,0;k0,0;k1,0;k1,0;").due("count(6)", 3);
    }

    private static void nothingChanges() {
        Stage.says("BAD .. NO .. NONE .. FULL", "nothing changes then: night, owed, told, run, keep, back, count");
        for (String bad : new String[] {"night(8)", "night(-1)", "night(1024)", "owed(3)", "owed(-1)", "told(3, 5)", "told(-1, 5)", "told(10, 5)", "told(1, 100000)", "told(1, -1)",
            "run(0, 0, 0)", "run(21, 0, 0)", "run(5, -1, 0)", "run(5, 1000, 0)", "run(5, 0, 8)", "run(5, 0, -1)", "count(7)", "count(-1)"}) {
            Stage.refused(NightEdgesTest::onTour, bad, BAD);
        }
        Stage.refused(NightEdgesTest::onTour, "night(7)", NONE);
        Stage.refused(() -> onTour().then("keep()").then("rest(1)"), "keep()", FULL);
        Stage.refused(() -> onTour().then("back()"), "back()", NO);
    }
}
