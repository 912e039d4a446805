/** The edges of words and days: lines, rehearse, rehearsals and rest. */
public final class WordEdgesTest {
    private static final int BAD = Stage.BAD, NO = Stage.NO, NONE = Stage.NONE;

    public static void main(String[] args) {
        keptLines();
        linesOfWhom();
        rehearse();
        hoursAndKinds();
        fewestHours();
        firstPairs();
        mostPairs();
        rest();
        nothingChanges();
        Stage.end();
    }

    private static Stage sole(int lines, int forgetting) {
        return Stage.of("a1,0;p1,0," + lines + ",0;o0,0;f" + forgetting + ";");
    }

    private static void keptLines() {
        Stage.says("part 1", "N times (100 less R times the DAYS since SAID, 0 at least) by 100, cut");
        for (int forgetting = 0; forgetting <= 99; forgetting++) {
            for (int lines : new int[] {1, 99, 100, 101, 999}) {
                Stage s = sole(lines, forgetting).due("lines(0, 0)", lines);
                for (int day = 1; day <= 3; day++) {
                    int hundredths = 100 - forgetting * day;
                    s.then("rest(1)").due("lines(0, 0)", hundredths > 0 ? lines * hundredths / 100 : 0);
                }
            }
        }
        Stage.says("part 1", "0 at least: the last DAY on which some are KEPT, the first of none, and later");
        sole(999, 10).then("rest(9)").due("lines(0, 0)", 99).then("rest(1)").due("lines(0, 0)", 0).then("rest(1)")
            .due("lines(0, 0)", 0);
        sole(999, 1).then("rest(99)").due("lines(0, 0)", 9).then("rest(1)").due("lines(0, 0)", 0).then("rest(1)")
            .due("lines(0, 0)", 0);
        sole(999, 99).then("rest(1)").due("lines(0, 0)", 9).then("rest(1)").due("lines(0, 0)", 0).then("rest(99)")
            .due("lines(0, 0)", 0);
        sole(999, 33).then("rest(3)").due("lines(0, 0)", 9).then("rest(1)").due("lines(0, 0)", 0);
        sole(999, 50).then("rest(1)").due("lines(0, 0)", 499).then("rest(1)").due("lines(0, 0)", 0);
        Stage.says("part 1", "cut: the last that is none, the first that is one");
        sole(99, 99).then("rest(1)").due("lines(0, 0)", 0);
        sole(100, 99).then("rest(1)").due("lines(0, 0)", 1);
        sole(199, 99).then("rest(1)").due("lines(0, 0)", 1);
        sole(1, 1).then("rest(1)").due("lines(0, 0)", 0);
        sole(1, 0).then("rest(99)").due("lines(0, 0)", 1);
        Stage.says("part 1", "as many DAYS as the calls allow");
        Stage s = sole(999, 99);
        Stage never = sole(999, 0);
        for (int n = 0; n < 400; n++) {
            s.then("rest(99)");
            never.then("rest(99)");
        }
        s.due("count(4)", 39600).due("lines(0, 0)", 0).due("least(0, 0, -1)", 999).due("rehearse(0, 0)", 10)
            .due("lines(0, 0)", 999);
        never.due("count(4)", 39600).due("lines(0, 0)", 999).due("least(0, 0, -1)", 0);
    }

    private static void linesOfWhom() {
        String some = "a1,1;a1,0;p1,1,100,0;p1,0,50,0;o0,0;k1,0;k1,1;";
        Stage.says("promise 12", "NO: it MAY not play it");
        Stage.of(some).due("lines(#, 0)", 100, NO).due("lines(#, 1)", NO, 50);
        Stage.says("promise 12", "BAD: PLAYERS, PARTS such as there are");
        Stage.of(some).dueAll("lines(#, 0)", BAD, "2", "-1", "10", "MIN", "MAX")
            .dueAll("lines(0, #)", BAD, "2", "-1", "8", "MIN", "MAX");
        Stage.says("BAD .. NO", "of several the first in this order");
        Stage.of(some).due("lines(2, 1)", BAD).due("lines(1, 2)", BAD).due("lines(2, 2)", BAD).due("rehearse(2, 1)", BAD)
            .due("rehearse(1, 2)", BAD);
        Stage.says("part 1", "SAID is of a PLAYER in a PART: the last of ten in the last of eight");
        Stage s = Stage.of("a1,0;".repeat(10) + "p1,0,100,0;".repeat(8) + "o9,7;k8,7;k9,6;k0,0;");
        s.then("rest(1)").due("rehearse(9, 7)", 1).due("lines(9, 7)", 100).due("lines(8, 7)", 90).due("lines(9, 6)", 90)
            .due("lines(0, 0)", 90);
        s.due("rehearse(0, 0)", 1).due("lines(0, 0)", 100).due("lines(9, 8)", BAD).due("lines(10, 7)", BAD)
            .due("rehearse(9, 8)", BAD).due("rehearse(10, 7)", BAD);
    }

    private static void rehearse() {
        Stage.says("part 2", "takes (N and 99) by 100, cut, hours");
        for (int lines = 1; lines <= 999; lines++) {
            int hours = 0;
            while (hours * 100 < lines) {
                hours++;
            }
            sole(lines, 10).due("rehearse(0, 0)", hours);
        }
        Stage.says("promise 13", "A pair is rehearsed (SAID today)");
        Stage s = sole(100, 10).then("rest(3)").due("lines(0, 0)", 70).due("rehearse(0, 0)", 1).due("lines(0, 0)", 100)
            .due("count(4)", 3);
        s.due("rehearse(0, 0)", 1).then("rest(1)").due("lines(0, 0)", 90);
        Stage.says("promise 13", "NO; BAD");
        String some = "a1,1;a1,0;p1,1,100,0;p1,0,50,0;o0,0;k1,0;k1,1;";
        Stage.of(some).due("rehearse(#, 0)", 1, NO).due("rehearse(#, 1)", NO, 1)
            .dueAll("rehearse(#, 0)", BAD, "2", "-1", "10", "MIN", "MAX")
            .dueAll("rehearse(0, #)", BAD, "2", "-1", "8", "MIN", "MAX");
    }

    private static void hoursAndKinds() {
        Stage.says("part 2", "in h hours (0 to 99)");
        sole(100, 10).then("rest(1)").dueAll("rehearsals(#, -1)", BAD, "-1", "100", "MIN", "MAX").due("rehearsals(0, -1)", 0)
            .due("rehearsals(1, -1)", 10).due("rehearsals(99, -1)", 10);
        Stage.says("part 2", "in 0 hours: no pair");
        sole(999, 99).then("rest(2)").dueAll("rehearsals(0, -#)", 0, "1", "2", "3").due("rehearsals(0, 0)", NONE);
        Stage.says("promise 14", "what is -3 and more");
        sole(100, 10).then("rest(1)").dueAll("rehearsals(9, #)", BAD, "-4", "-5", "MIN").due("rehearsals(9, -1)", 10)
            .due("rehearsals(9, -2)", 1).due("rehearsals(9, -3)", 1);
        Stage.says("promise 14", "the k-th pair (0 and more). NONE");
        sole(100, 10).then("rest(1)").due("rehearsals(9, #)", 0, NONE, NONE)
            .dueAll("rehearsals(9, #)", NONE, "31", "32", "80", "1000", "MAX");
        Stage.says("BAD .. NONE", "of several the first in this order");
        sole(100, 10).due("rehearsals(9, 0)", NONE).due("rehearsals(100, 0)", BAD).due("rehearsals(-1, MAX)", BAD)
            .due("rehearsals(100, -4)", BAD);
        Stage.says("promise 14", "nothing is forgotten: no pair");
        sole(999, 10).dueAll("rehearsals(99, -#)", 0, "1", "2", "3").due("rehearsals(99, 0)", NONE);
        sole(999, 0).then("rest(99)").dueAll("rehearsals(99, -#)", 0, "1", "2", "3").due("rehearsals(99, 0)", NONE);
        Stage.says("part 2", "hours: the last in which a pair has no time, the first in which it has");
        for (int lines : new int[] {1, 100, 101, 500, 501, 900, 901, 999}) {
            int hours = (lines - 1) / 100 + 1;
            Stage s = sole(lines, 99).then("rest(2)");
            s.due("rehearsals(" + (hours - 1) + ", -1)", 0).due("rehearsals(" + hours + ", -1)", lines)
                .due("rehearsals(" + hours + ", -2)", hours);
        }
        Stage.says("part 2", "pairs (PLAYER, PART that it MAY play)");
        Stage.of("a1,0;a1,1;p1,1,100,0;p1,0,100,0;o0,0;k1,0;k0,1;").then("rest(1)").due("rehearsals(99, -3)", 2)
            .due("rehearsals(99, #)", 1, 10, NONE);
        Stage.says("part 2", "each once");
        Stage.of("a1,0;p1,0,100,0;o0,0;k0,0;k0,0;").then("rest(1)").due("rehearsals(99, -1)", 10).due("rehearsals(99, -3)", 1);
        Stage.says("promise 14", "asking says nothing");
        sole(100, 10).then("rest(2)").due("rehearsals(99, -1)", 20).due("rehearsals(99, -1)", 20).due("lines(0, 0)", 80)
            .due("count(4)", 2);
    }

    private static Stage forgotten(int... lines) {
        StringBuilder text = new StringBuilder("a1,0;f99;");
        for (int i = 0; i < lines.length; i++) {
            text.append("p1,0,").append(lines[i]).append(",0;o0,").append(i).append(";");
        }
        return Stage.of(text.toString()).then("rest(2)");
    }

    private static void fewestHours() {
        Stage.says("part 2", "the most LINES more are KEPT");
        forgotten(300, 199, 102).due("rehearsals(4, -1)", 301).due("rehearsals(4, -2)", 4).due("rehearsals(4, #)", 1, 2, NONE);
        forgotten(300, 199, 101).due("rehearsals(3, -1)", 300).due("rehearsals(3, -2)", 3).due("rehearsals(3, #)", 0, NONE);
        Stage.says("part 2", "of several sets the one that takes the fewest hours");
        forgotten(150, 150, 300).due("rehearsals(4, -1)", 300).due("rehearsals(4, -2)", 3).due("rehearsals(4, -3)", 1)
            .due("rehearsals(4, #)", 2, NONE);
        forgotten(300, 150, 150).due("rehearsals(4, -2)", 3).due("rehearsals(4, #)", 0, NONE);
        forgotten(1, 1, 2).due("rehearsals(1, -1)", 2).due("rehearsals(1, #)", 2, NONE).due("rehearsals(2, -1)", 3)
            .due("rehearsals(2, #)", 0, 2, NONE);
        Stage.says("part 2", "a pair that keeps no LINE more takes no hour");
        forgotten(100, 100).then("rehearse(0, 0)").due("rehearsals(99, -2)", 1).due("rehearsals(99, #)", 1, NONE);
        forgotten(100, 100).then("rehearse(0, 0)").then("rehearse(0, 1)").due("rehearsals(99, -3)", 0);
        Stage.says("promise 14", "fewer pairs than when it was last asked");
        forgotten(200, 100, 900).due("rehearsals(99, -1)", 1200).then("rehearse(0, 2)").due("rehearsals(10, -1)", 300)
            .due("rehearsals(10, #)", 0, 1, NONE);
        Stage.says("part 2", "one LINE more counts above all hours");
        forgotten(400, 401).due("rehearsals(5, -1)", 401).due("rehearsals(5, -2)", 5).due("rehearsals(4, -1)", 400)
            .due("rehearsals(4, -2)", 4);
    }

    private static void firstPairs() {
        Stage.says("part 2", "of these the first: the set that has the first pair in which two are unlike");
        forgotten(100, 100).due("rehearsals(1, 0)", 0);
        forgotten(101, 91, 10).due("rehearsals(2, #)", 0, NONE);
        forgotten(91, 101, 10).due("rehearsals(2, #)", 0, 2, NONE);
        forgotten(91, 10, 101).due("rehearsals(2, #)", 0, 1, NONE);
        forgotten(50, 50, 50, 50).due("rehearsals(2, #)", 0, 1, NONE).due("rehearsals(3, #)", 0, 1, 2, NONE);
        forgotten(10, 40, 40, 10).due("rehearsals(2, #)", 1, 2, NONE).due("rehearsals(3, #)", 0, 1, 2, NONE);
        Stage.says("part 2", "pairs are in order by PLAYER, then PART");
        Stage.of("a1,0;a1,0;p1,0,100,0;p1,0,100,0;k1,0;k0,1;").then("rest(1)").due("rehearsals(1, 0)", 1)
            .due("rehearsals(2, #)", 1, 10, NONE);
        Stage.of("a1,0;a1,0;p1,0,100,0;p1,0,100,0;k1,1;k1,0;").then("rest(1)").due("rehearsals(1, 0)", 10)
            .due("rehearsals(2, #)", 10, 11, NONE);
    }

    private static void mostPairs() {
        String all = "a1,0;".repeat(4) + "p1,0,300,0;".repeat(7) + "p1,0,301,0;f99;";
        for (int i = 0; i < 8; i++) {
            all += "o0," + i + ";k1," + i + ";k2," + i + ";k3," + i + ";";
        }
        Stage.says("part 2", "as many pairs as there can be, in 99 hours and less");
        // 28 pairs of 3 hours, 4 of 4: 100 hours
        Stage s = Stage.of(all).then("rest(2)");
        s.due("rehearsals(99, -1)", 28 * 300 + 4 * 301 - 300).due("rehearsals(99, -2)", 97).due("rehearsals(99, -3)", 31);
        s.due("rehearsals(99, 30)", 37).due("rehearsals(99, 31)", NONE).due("rehearsals(99, 29)", 35)
            .due("rehearsals(96, -1)", 9303).due("rehearsals(96, -2)", 96);
        Stage.says("promise 14", "10 PLAYER and PART: the last pair there can be");
        Stage.of("a1,0;".repeat(10) + "p1,0,9,0;".repeat(8) + "o9,7;f99;").then("rest(2)").due("rehearsals(1, 0)", 97);
        Stage.says("part 2", "99 hours, filled to the last");
        // nine pairs of 10 hours and one of 9
        Stage t = Stage.of("a1,0;a1,0;" + "p1,0,999,0;".repeat(5) + "p1,0,900,0;f99;o0,0;o0,1;o0,2;o0,3;o0,4;k1,0;k1,1;k1,2;k1,3;o1,5;").then("rest(2)");
        t.due("rehearsals(99, -2)", 99).due("rehearsals(99, -1)", 9 * 999 + 900).due("rehearsals(98, -2)", 90)
            .due("rehearsals(98, -1)", 8991)
            .due("rehearsals(99, 9)", 15).due("rehearsals(98, 9)", NONE).due("rehearsals(89, -2)", 89);
    }

    private static void rest() {
        Stage.says("promise 15", "So many DAYS (1 to 99) go by: today");
        Stage.empty().due("rest(1)", 1).due("rest(99)", 100).due("rest(50)", 150).due("count(4)", 150);
        for (int days = 1; days <= 99; days++) {
            Stage.empty().due("rest(" + days + ")", days);
        }
        Stage.says("promise 15", "BAD");
        Stage.empty().dueAll("rest(#)", BAD, "0", "100", "-1", "-99", "MIN", "MAX").due("count(4)", 0);
    }

    private static Stage onTour() {
        return Stage.of("a60,3;a50,1;a40,0;p55,1,300,1;p45,0,120,0;c1,9;c2,9;o0,0;k1,0;o1,1;k2,1;k0,1;x0,1,50;f7;")
            .then("rest(2)").then("night(4)").then("keep()").then("rest(1)").then("night(1)").then("told(1, 77)");
    }

    private static void nothingChanges() {
        Stage.says("BAD .. NO .. NONE", "nothing changes then: lines, rehearse, rehearsals, rest");
        for (String bad : new String[] {"lines(3, 0)", "lines(0, 2)", "rehearse(3, 0)", "rehearse(-1, 0)", "rehearse(0, 2)", "rehearse(0, -1)",
            "rehearse(10, 0)", "rehearse(0, 8)", "rehearsals(100, 0)", "rehearsals(-1, 0)", "rehearsals(5, -4)", "rest(0)", "rest(100)", "rest(-1)"}) {
            Stage.refused(WordEdgesTest::onTour, bad, BAD);
        }
        Stage.refused(WordEdgesTest::onTour, "lines(2, 0)", NO);
        Stage.refused(WordEdgesTest::onTour, "rehearse(2, 0)", NO);
        Stage.refused(WordEdgesTest::onTour, "rehearsals(99, 99)", NONE);
    }
}
