/** The edges of colds and covers: cold, weak, engaged and fewest. */
public final class ColdEdgesTest {
    private static final int BAD = Stage.BAD, NONE = Stage.NONE, MILLION = 1000000;
    private static final String TEN_PLAYERS = "a1,0;".repeat(10);

    public static void main(String[] args) {
        numbersOfCold();
        passing();
        cutting();
        kindsOfCold();
        numbersOfWeak();
        weakSets();
        numbersOfEngaged();
        whichCovers();
        bestCover();
        fewest();
        nothingChanges();
        Stage.end();
    }

    private static void numbersOfCold() {
        Stage.says("part 3", "Behind d DAYS (0 to 14)");
        Stage pair = Stage.of("a1,0;a1,0;p1,0,9,0;o0,0;x0,1,50;");
        // half stay well on each day, cut
        pair.due("cold(1, #, 1)", 0, 500000, 750000, 875000, 937500, 968750, 984375, 992188, 996094, 998047, 999024, 999512, 999756, 999878, 999939);
        pair.dueAll("cold(1, #, 1)", BAD, "15", "16", "-1", "MIN", "MAX");
        for (int players = 1; players <= 10; players++) {
            int all = (1 << players) - 1;
            Stage s = Stage.of("a1,0;".repeat(players) + "p1,0,9,0;o0,0;");
            Stage.says("promise 16", "some PLAYERS have it (bits): sets of PLAYERS such as there are");
            s.due("cold(0, 0, 11)", 0).due("cold(" + all + ", 14, 11)", all).due("cold(" + all + ", 0, 12)", MILLION)
                .dueAll("cold(#, 0, 11)", BAD, Integer.toString(all + 1), "-1", "1024", "MIN", "MAX");
            Stage.says("promise 16", "a PLAYER has it (what 0 to 9): PLAYERS such as there are");
            s.due("cold(" + all + ", 1, " + (players - 1) + ")", MILLION).due("cold(0, 1, " + (players - 1) + ")", 0);
            for (int p = players; p <= 9; p++) {
                s.due("cold(" + all + ", 1, " + p + ")", BAD);
            }
        }
        Stage.says("promise 16", "MET (10), the set of the most (11), how many (12)");
        Stage.of("a1,0;p1,0,9,0;o0,0;")
            .due("cold(0, 0, #)", 0, BAD, BAD, BAD, BAD, BAD, BAD, BAD, BAD, BAD, MILLION, 0, MILLION, BAD)
            .dueAll("cold(0, 0, #)", BAD, "-1", "13", "14", "MIN", "MAX");
        Stage.of(TEN_PLAYERS + "p1,0,9,0;o0,0;")
            .due("cold(513, 0, #)", MILLION, 0, 0, 0, 0, 0, 0, 0, 0, MILLION, 0, 513, MILLION, BAD);
    }

    private static void passing() {
        Stage.says("part 3", "some PLAYERS have it .. for good");
        Stage.of("a1,0;a1,0;p1,0,9,0;o0,0;")
            .due("cold(1, #, 0)", MILLION, MILLION, MILLION, MILLION, MILLION, MILLION, MILLION, MILLION, MILLION,
            MILLION, MILLION, MILLION, MILLION, MILLION, MILLION);
        Stage.says("part 3", "nobody has it, all have it");
        Stage full = Stage.of("a1,0;a1,0;a1,0;p1,0,9,0;o0,0;x0,1,100;x0,2,100;x1,2,100;");
        full.due("cold(0, 14, #)", 0, 0, 0).due("cold(0, 14, 11)", 0).due("cold(0, 14, 12)", MILLION)
            .due("cold(0, 14, 10)", MILLION);
        full.due("cold(7, 14, #)", MILLION, MILLION, MILLION).due("cold(7, 14, 11)", 7).due("cold(7, 14, 12)", MILLION)
            .due("cold(7, 14, 10)", 0);
        Stage.says("part 1", "by C hundredths a day (0 to 100): 0, 1, 99, 100");
        for (int c : new int[] {0, 1, 99, 100}) {
            Stage.of("a1,0;a1,0;p1,0,9,0;x0,1," + c + ";").due("cold(1, 1, 1)", c * 10000).due("cold(2, 1, 0)", c * 10000);
        }
        Stage.of("a1,0;a1,0;p1,0,9,0;x0,1,0;").due("cold(1, 14, 1)", 0);
        Stage.of("a1,0;a1,0;p1,0,9,0;x0,1,100;").due("cold(1, 14, 11)", 3).due("cold(1, 14, 12)", MILLION);
        Stage.says("part 3", "for each that has it (as the DAY begins");
        String chain = "p1,0,9,0;";
        for (int p = 0; p < 9; p++) {
            chain += "x" + p + "," + (p + 1) + ",100;";
        }
        Stage row = Stage.of(TEN_PLAYERS + chain).due("cold(1, #, 11)", 1, 3, 7, 15, 31, 63, 127, 255, 511, 1023, 1023);
        row.due("cold(512, #, 11)", 512, 768, 896, 960, 992, 1008, 1016, 1020, 1022, 1023, 1023).due("cold(1, 8, 9)", 0)
            .due("cold(1, 9, 9)", MILLION);
        Stage.says("promise 16", "asked of fewer DAYS, of other PLAYERS, again");
        row.due("cold(1, 14, 11)", 1023).due("cold(1, 2, 11)", 7).due("cold(2, 2, 11)", 15).due("cold(1, 3, 11)", 15)
            .due("cold(1, 0, 11)", 1);
    }

    private static void cutting() {
        Stage.says("part 3", "for each that has it (.. by their numbers) times (100 less C) by 100, cut");
        // as they come 255529; cut at the end alone, or from the last one on, 255530
        Stage.of("a1,0;".repeat(7) + "p1,0,9,0;x0,6,53;x1,6,2;x2,6,15;x3,6,2;x4,6,26;x5,6,10;")
            .due("cold(63, 1, 6)", MILLION - 255529);
        Stage.says("part 3", "The million of each state is parted PLAYER by PLAYER (those that have it not, rising)");
        // 2 stays well by 448900, 3 by 685300: {0, 1} 307631, with 2 377668; falling it would be 551101 and 314700
        Stage.of("a1,0;".repeat(4) + "p1,0,9,0;x0,2,33;x1,2,33;x0,3,11;x1,3,23;")
            .due("cold(3, 1, #)", MILLION, MILLION, 551100, 314701)
            .due("cold(3, 1, 11)", 7).due("cold(3, 1, 12)", 377668);
        Stage.says("part 3", "of n in a state n times w by 1000000, cut, stay well, the others catch it");
        // 10000 stay well, then 100, then 1, then none
        Stage.of("a1,0;a1,0;p1,0,9,0;x0,1,99;").due("cold(1, #, 1)", 0, 990000, 999900, 999999, MILLION, MILLION);
        // 990000 stay well, 980100, ..
        Stage.of("a1,0;a1,0;p1,0,9,0;x0,1,1;").due("cold(1, #, 1)", 0, 10000, 19900, 29701, 39404, 49010);
        Stage.says("part 3", "all states together are 1000000, whatever is cut");
        String all = "p1,0,9,1;";
        for (int p = 0; p < 10; p++) {
            for (int q = p + 1; q < 10 && all.length() < 340; q++) {
                all += "x" + p + "," + q + "," + (7 * p + 3 * q + 1) + ";";
            }
        }
        Stage s = Stage.of(TEN_PLAYERS + all.substring(0, all.lastIndexOf(';') + 1));
        for (int d = 0; d <= 14; d++) {
            s.due("cold(1, " + d + ", 0)", MILLION);
        }
    }

    private static void kindsOfCold() {
        Stage.says("part 3", "the set of the most (of several the least bits), how many");
        Stage.of("a1,0;a1,0;p1,0,9,0;x0,1,49;").due("cold(1, 1, 11)", 1).due("cold(1, 1, 12)", 510000);
        Stage.of("a1,0;a1,0;p1,0,9,0;x0,1,50;").due("cold(1, 1, 11)", 1).due("cold(1, 1, 12)", 500000);
        Stage.of("a1,0;a1,0;p1,0,9,0;x0,1,51;").due("cold(1, 1, 11)", 3).due("cold(1, 1, 12)", 510000);
        Stage.of("a1,0;a1,0;a1,0;p1,0,9,0;x1,2,50;x0,1,50;").due("cold(2, 1, 11)", 2).due("cold(2, 1, 12)", 250000);
        Stage.of("a1,0;a1,0;a1,0;p1,0,9,0;x1,2,50;x0,1,75;").due("cold(2, 1, 11)", 3).due("cold(2, 1, 12)", 375000);
        Stage.says("part 3", "in how many MET (nothing CUT) with these OFF");
        Stage.of("a1,0;a1,0;p1,0,9,1;o0,0;x0,1,30;").due("cold(2, 1, 10)", 700000).due("cold(1, 1, 10)", 0)
            .due("cold(0, 1, 10)", MILLION);
        Stage.of("a1,0;a1,0;p1,0,9,0;o0,0;k1,0;x0,1,30;").due("cold(2, 1, 10)", 700000).due("cold(1, 1, 10)", 700000);
        Stage.of("a1,0;a1,0;p1,0,9,0;x0,1,30;").due("cold(0, 0, 10)", 0);
        Stage.says("part 3", "one of 1000000 counts, and none");
        Stage.of("a1,0;a1,0;p1,0,9,0;o1,0;x0,1,99;").due("cold(1, #, 10)", 1000000, 10000, 100, 1, 0, 0);
    }

    private static void numbersOfWeak() {
        Stage.says("part 3", "WEAK of k (1, 2)");
        Stage s = Stage.of("a1,0;a1,0;p1,0,9,0;o0,0;").due("weak(#, 0)", BAD, 1, 1, BAD).due("weak(#, 1)", BAD, 1, 3, BAD);
        s.dueAll("weak(#, 0)", BAD, "-1", "MIN", "MAX");
        Stage.says("promise 17", "how many (what = 0), the first (1; NONE). BAD");
        s.dueAll("weak(1, #)", BAD, "2", "-1", "MIN", "MAX");
        Stage.says("promise 17", "none is WEAK: 0, NONE");
        Stage.of("a1,0;a1,0;a1,0;p1,0,9,0;o0,0;k1,0;k2,0;").due("weak(1, #)", 0, NONE).due("weak(2, #)", 0, NONE);
        Stage.says("BAD .. NONE", "of several the first in this order");
        Stage.of("a1,0;a1,0;a1,0;p1,0,9,0;o0,0;k1,0;k2,0;").due("weak(0, 1)", BAD).due("weak(3, 1)", BAD).due("weak(1, 2)", BAD);
    }

    private static void weakSets() {
        Stage.says("part 3", "sets of just k PLAYERS: fewer PLAYERS than k");
        Stage.of("a1,0;p1,0,9,0;").due("weak(1, #)", 1, 1).due("weak(2, #)", 0, NONE);
        Stage.says("part 3", "not MET whoever is OFF: all sets of k");
        for (int players = 1; players <= 10; players++) {
            Stage.of("a1,0;".repeat(players) + "p1,0,9,1;").due("weak(1, #)", players, 1)
                .due("weak(2, #)", players * (players - 1) / 2, players > 1 ? 3 : NONE);
        }
        Stage.says("part 3", "three PARTS of one SCENE, two PLAYERS that KNOW them all, then three");
        String three = "p1,0,9,1;p1,0,9,1;p1,0,9,1;c7,1;k0,0;k0,1;k0,2;k1,0;k1,1;k1,2;";
        Stage.of("a1,0;a1,0;" + three).due("weak(1, #)", 2, 1).due("run(1, 0, 0)", 0).due("cold(0, 0, 10)", 0)
            .due("cuts(0, #)", 1, 9);
        Stage.of("a1,0;a1,0;a1,0;" + three + "k2,0;").due("weak(1, #)", 3, 1).due("run(1, 0, 0)", 1)
            .due("cold(0, 0, 10)", MILLION).due("cuts(0, #)", 0, 0);
        Stage.says("part 3", "the first (least bits)");
        Stage.of(TEN_PLAYERS + "p1,0,9,0;o9,0;").due("weak(1, #)", 1, 512).due("weak(2, #)", 9, 513);
        Stage.of(TEN_PLAYERS + "p1,0,9,0;o8,0;k9,0;").due("weak(1, #)", 0, NONE).due("weak(2, #)", 1, 768);
        Stage.of("a1,0;".repeat(4) + "p1,0,9,0;p1,0,9,0;o0,0;k3,0;o1,1;k2,1;").due("weak(2, #)", 2, 6);
    }

    private static void numbersOfEngaged() {
        Stage s = Stage.of("a1,0;a1,0;p1,0,9,0;o0,0;");
        Stage.says("promise 18", "k (1, 2)");
        s.due("engaged(#, 0)", BAD, 10, 10, BAD).due("engaged(#, 1)", BAD, 0, 1, BAD)
            .dueAll("engaged(#, 0)", BAD, "-1", "MIN", "MAX");
        Stage.says("promise 18", "10 PLAYER and PART (what = 0), how many are WEAK then (1)");
        s.dueAll("engaged(1, #)", BAD, "2", "-1", "MIN", "MAX");
        Stage.says("promise 18", "NONE: there is no COVER");
        Stage none = Stage.of("a1,0;a1,0;p1,0,9,0;o0,0;k1,0;").due("engaged(1, #)", NONE, NONE).due("engaged(2, #)", NONE, NONE);
        Stage.says("BAD .. NONE", "of several the first in this order");
        none.due("engaged(0, 0)", BAD).due("engaged(3, 1)", BAD).due("engaged(1, 2)", BAD).due("engaged(2, -1)", BAD);
    }

    private static void whichCovers() {
        Stage.says("part 3", "a PLAYER that has the SKILLS");
        Stage.of("a1,14;a1,15;p1,15,9,0;").due("engaged(1, #)", 10, 1);
        Stage.of("a1,14;a1,7;p1,15,9,0;").due("engaged(1, #)", NONE, NONE);
        Stage.says("part 3", "comes to KNOW a PART it does not know (and that is not its OWN)");
        Stage.of("a1,0;a1,0;a1,0;p1,0,9,0;o0,0;k1,0;").due("engaged(1, 0)", 20).due("engaged(2, #)", 20, 0);
        Stage.of("a1,0;p1,0,9,0;o0,0;").due("engaged(1, 0)", NONE);
        Stage.of("a1,0;p1,0,9,0;k0,0;").due("engaged(1, 0)", NONE);
        Stage.of("a1,0;p1,1,9,0;o0,0;").due("engaged(1, 0)", NONE);
        Stage.of("a1,0;p1,0,9,0;").due("engaged(1, #)", 0, 1).due("engaged(2, #)", 0, 0);
        Stage.says("part 3", "the last COVER there can be");
        String most = TEN_PLAYERS.substring(5) + "a1,1;" + "p1,1,9,0;".repeat(8);
        for (int i = 0; i < 7; i++) {
            most += "k9," + i + ";";
        }
        Stage.of(most).due("engaged(1, #)", 97, 1).due("engaged(2, #)", 97, 9);
        Stage.says("part 3", "a COVER beyond the 24 that are told");
        Stage.of("a1,0;a1,0;p1,0,9,0;o0,0;" + "k0,0;".repeat(24)).due("count(6)", 24).due("engaged(1, #)", 10, 0)
            .due("count(6)", 24);
        Stage.of("a1,0;a1,0;a1,0;p1,0,9,0;o0,0;" + "k0,0;".repeat(24)).due("fewest()", 2).due("count(6)", 24);
        Stage.of("a1,0;a1,0;a1,0;p1,0,9,0;o0,0;k1,0;" + "k0,0;".repeat(23)).due("fewest()", 1).due("count(6)", 24);
    }

    private static void bestCover() {
        Stage.says("part 3", "the COVER by which the fewest sets of k are WEAK");
        Stage.of("a1,0;a1,0;p1,0,9,0;p1,0,9,0;o0,0;o1,1;k0,1;").due("weak(1, 0)", 1).due("engaged(1, #)", 10, 0);
        Stage.of("a1,0;a1,0;a1,0;p1,0,9,0;p1,0,9,0;o0,0;o0,1;k1,0;c3,1;").due("weak(1, 0)", 2).due("engaged(1, #)", 21, 0);
        Stage.says("part 3", "of several the first by PLAYER, then PART");
        Stage.of("a1,0;a1,0;a1,0;p1,0,9,0;p1,0,9,0;o1,0;o0,1;").due("engaged(1, #)", 0, 1);
        Stage.of("a1,0;a1,0;a1,0;p1,0,9,0;p1,0,9,0;o0,0;o0,1;").due("engaged(1, #)", 10, 1);
        Stage.of("a1,0;a1,0;a1,0;p1,0,9,0;p1,1,9,0;p1,0,9,0;o0,0;k1,0;k2,0;").due("engaged(1, #)", 2, 3);
        Stage.says("part 3", "by one less it is best, though it comes later");
        Stage.of("a1,0;a1,0;a1,0;p1,0,9,0;p1,0,9,0;o0,0;o0,1;k1,0;").due("engaged(1, #)", 11, 0);
        Stage.says("part 3", "a COVER has its new PART in no SCENE with another one of its own");
        // of two PLAYERS one is left for two PARTS of one SCENE, whatever it KNOWS
        Stage.of("a1,0;a1,0;p1,0,9,0;p1,0,9,0;o0,0;o1,1;c3,1;").due("weak(1, 0)", 2).due("engaged(1, #)", 1, 2);
        Stage.of("a1,0;a1,0;a1,0;p1,0,9,0;p1,0,9,0;o0,0;o1,1;k2,1;c3,1;").due("weak(1, 0)", 1).due("engaged(1, #)", 10, 0);
        Stage.of("a1,0;a1,0;p1,0,9,0;p1,0,9,0;p1,0,9,0;o0,0;o1,1;o1,2;k0,1;c6,1;").due("weak(1, #)", 2, 1)
            .due("engaged(1, #)", 2, 2);
        Stage.says("promise 18", "nothing is engaged by asking");
        Stage.of("a1,0;a1,0;p1,0,9,0;o0,0;").then("engaged(1, 0)").due("player(1, 3)", 0).due("count(6)", 0)
            .due("weak(1, 0)", 1).due("engaged(1, 0)", 10);
    }

    private static void fewest() {
        String three = "a1,0;a1,0;a1,0;p1,0,9,0;";
        Stage.says("part 3", "FEWEST COVERS (0, 1 or 2) by which none of two is WEAK; none");
        Stage.of(three + "k0,0;k1,0;k2,0;").due("fewest()", 0);
        Stage.of(three + "k0,0;k1,0;").due("fewest()", 1);
        Stage.of(three + "k0,0;").due("fewest()", 2);
        Stage.of(three).due("fewest()", NONE);
        Stage.says("part 3", "there are no two: none is WEAK");
        Stage.empty().due("fewest()", 0);
        Stage.of("a1,0;p1,0,9,0;").due("fewest()", 0);
        Stage.says("part 3", "two PLAYERS: both OFF leaves nobody");
        Stage.of("a1,0;a1,0;p1,0,9,0;o0,0;").due("fewest()", NONE);
        Stage.of("a1,0;a1,0;p1,0,9,0;o0,0;k1,0;").due("fewest()", NONE);
        Stage.says("part 3", "there is no COVER");
        Stage.of("a1,0;a1,0;a1,0;p1,1,9,0;o0,0;").due("fewest()", NONE);
        Stage.says("part 3", "there is one COVER, and two would be needed");
        Stage.of("a1,0;a1,0;a1,1;p1,1,9,0;").due("fewest()", NONE);
        Stage.says("part 3", "two COVERS of one PLAYER, of two");
        Stage.of("a1,0;a1,0;a1,0;p1,0,9,0;p1,0,9,0;k0,0;k0,1;k1,0;k1,1;").due("fewest()", 2);
        Stage.of("a1,0;a1,0;a1,0;p1,0,9,0;p1,0,9,0;k0,0;k0,1;k1,0;k2,1;").due("fewest()", 2);
        Stage.of("a1,0;a1,0;a1,0;p1,0,9,0;p1,0,9,0;k0,0;k0,1;k1,0;k1,1;c3,1;").due("fewest()", NONE);
        Stage.says("part 3", "one COVER, not the first there is");
        Stage.of("a1,0;".repeat(4) + "p1,0,9,0;p1,0,9,0;k0,0;k1,0;k1,1;k2,1;k3,1;").due("fewest()", 1)
            .due("engaged(2, #)", 20, 0);
        Stage.says("part 3", "a COVER that is OFF is of no use, be it the first or the second of two");
        Stage.of("a1,0;a1,0;a1,0;p1,0,9,0;p1,0,9,0;o0,0;o0,1;").due("fewest()", NONE);
        Stage.of("a1,0;a1,0;a1,0;p1,0,9,0;p1,0,9,0;o0,0;o0,1;k2,0;").due("fewest()", NONE);
        Stage.of("a1,0;a1,0;a1,0;p1,0,9,0;p1,0,9,0;o0,0;o0,1;k1,1;").due("fewest()", NONE);
        Stage.says("part 3", "two COVERS, and another PART that nobody is left for");
        String four = "a1,0;".repeat(4) + "p1,0,9,0;p1,0,9,0;p1,0,9,0;k0,0;k0,1;k0,2;k1,0;k1,1;k1,2;c6,1;";
        Stage.of(four).due("fewest()", NONE);
        Stage.of(four + "k2,0;").due("fewest()", 2);
        Stage.says("part 3", "two COVERS, neither the first there is");
        Stage.of("a1,0;".repeat(4) + "p1,0,9,0;p1,0,9,0;k0,0;k1,1;k2,1;k3,1;").due("fewest()", 2);
        Stage.says("promise 19", "two in one company, none in the next");
        Stage.of(four + "k2,0;").due("fewest()", 2).then("wipe()").put(four).due("lay()", 4).due("fewest()", NONE);
        Stage.says("part 3", "two COVERS that are needed in one CASTING");
        Stage.of("a1,0;".repeat(4) + "p1,0,9,0;p1,0,9,0;c3,1;k0,0;k0,1;k1,0;k1,1;").due("fewest()", 2);
        Stage.says("promises 16 to 19", "ten PLAYERS, all of whom MAY play a PART");
        String every = "";
        for (int p = 0; p < 10; p++) {
            every += (p == 0 ? "o" : "k") + p + ",0;" + (p == 9 ? "o" : "k") + p + ",1;";
        }
        for (String scene : new String[] {"", "c3,1;"}) {
            Stage.of(TEN_PLAYERS + "p1,0,9,0;p1,0,9,0;" + every + scene).due("weak(1, #)", 0, NONE)
                .due("weak(2, #)", 0, NONE).due("fewest()", 0)
                .due("engaged(1, 0)", NONE).due("cold(511, 14, 10)", scene.isEmpty() ? MILLION : 0)
                .due("cold(255, 0, 10)", MILLION).due("run(20, 0, 255)", 20);
        }
        Stage.says("promises 16 to 19", "eight PARTS, each by a PLAYER of its own");
        String own = TEN_PLAYERS + "p1,0,9,1;".repeat(8) + "c255,1;";
        for (int i = 0; i < 8; i++) {
            own += "o" + i + "," + i + ";";
        }
        Stage.of(own).due("weak(1, #)", 8, 1).due("weak(2, #)", 44, 3).due("fewest()", NONE).due("engaged(1, #)", 80, 7)
            .due("cuts(0, 0)", 0)
            .due("cuts(128, #)", 128, 9).due("cold(768, 1, 10)", MILLION).due("cold(128, 0, 10)", 0).due("run(20, 0, 768)", 20);
        Stage.says("promise 19", "ten PLAYERS, eight PARTS, nobody KNOWS any");
        Stage.of(TEN_PLAYERS + "p1,0,9,0;".repeat(8)).due("fewest()", NONE).due("engaged(2, #)", 0, 45);
    }

    private static Stage onTour() {
        return Stage.of("a60,3;a50,1;a40,0;p55,1,300,1;p45,0,120,0;c1,9;c2,9;o0,0;k1,0;o1,1;k2,1;k0,1;x0,1,50;f7;")
            .then("rest(2)").then("night(4)").then("keep()").then("rest(1)").then("night(1)").then("told(1, 77)");
    }

    private static void nothingChanges() {
        Stage.says("BAD .. NONE", "nothing changes then: cold, weak, engaged, fewest");
        for (String bad : new String[] {"cold(8, 0, 0)", "cold(0, 15, 0)", "cold(0, -1, 0)", "cold(0, 0, 3)", "cold(0, 0, 13)",
            "weak(0, 0)", "weak(3, 0)", "weak(1, 2)", "engaged(0, 0)", "engaged(3, 0)", "engaged(1, 2)"}) {
            Stage.refused(ColdEdgesTest::onTour, bad, BAD);
        }
        Stage.refused(ColdEdgesTest::onTour, "fewest()", NONE);
        Stage.says("promise 16", "BAD between two of one cold");
        Stage s = Stage.of("a1,0;a1,0;p1,0,9,0;o0,0;x0,1,50;").due("cold(1, 1, 1)", 500000).due("cold(1, 15, 1)", BAD)
            .due("cold(4, 2, 1)", BAD);
        s.due("cold(1, 2, 1)", 750000).due("cold(1, 2, 13)", BAD).due("cold(1, -1, 1)", BAD).due("cold(1, 3, 1)", 875000);
    }
}
