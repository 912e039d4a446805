/** The edges of players, parts and castings: player, part, both, ways, least and cuts. */
public final class CastingEdgesTest {
    private static final int BAD = Stage.BAD, NO = Stage.NO, NONE = Stage.NONE;
    private static final String TEN_PLAYERS = "a9,0;".repeat(10), EIGHT_PARTS = "p9,0,9,0;".repeat(8);
    /** All numbers that are neither PLAYER, PART nor set of them. */
    private static final String[] NEVER = {"-1", "MIN", "MAX", "1024", "1073741824", "-1024"};

    public static void main(String[] args) {
        player();
        may();
        part();
        both();
        changes();
        severalParts();
        ways();
        setsOfPlayersAndParts();
        least();
        trouble();
        firstOfSeveral();
        cuts();
        cheapestOfSeveral();
        nothingChanges();
        Stage.end();
    }

    private static void player() {
        Stage.says("promise 6", "BAD: PLAYERS such as there are");
        for (int players = 1; players <= 10; players++) {
            Stage.of("a9,7;".repeat(players) + "p1,0,1,0;").due("player(" + (players - 1) + ", #)", 9, 7, 0, 0, 0)
                .dueAll("player(" + players + ", #)", BAD, "0", "1", "2", "3", "4");
        }
        Stage.of(TEN_PLAYERS + EIGHT_PARTS).dueAll("player(#, 0)", BAD, NEVER).dueAll("player(#, 4)", BAD, NEVER);
        Stage.says("promise 6", "what is 0 to 4");
        Stage.of(TEN_PLAYERS + EIGHT_PARTS).dueAll("player(9, #)", BAD, "5", "-1", "MIN", "MAX")
            .dueAll("player(0, #)", BAD, "5", "6", "-1");
        Stage.says("promise 6", "HEIGHT, SKILLS: the least and the most");
        Stage.of("a0,0;a99,15;p1,0,1,0;").due("player(0, #)", 0, 0).due("player(1, #)", 99, 15);
        Stage.says("promise 6", "PARTS that are its OWN, that it KNOWS, that it MAY play: none, the last, all");
        String own = "", known = "";
        for (int i = 0; i < 8; i++) {
            own += "o0," + i + ";";
            known += "k1," + i + ";";
        }
        Stage.of("a1,0;a1,0;a1,0;" + EIGHT_PARTS + own + known + "k2,7;").due("player(#, 2)", 255, 0, 0)
            .due("player(#, 3)", 0, 255, 128).due("player(#, 4)", 255, 255, 128);
    }

    private static void may() {
        Stage.says("part 1", "A PLAYER MAY play a PART, if it is its OWN or it KNOWS it");
        Stage.of("a1,0;a1,0;a1,0;p1,0,1,0;o0,0;k1,0;").due("player(#, 4)", 1, 1, 0).due("lines(#, 0)", 1, 1, NO);
        Stage.of("a1,0;p1,0,1,0;o0,0;k0,0;").due("player(0, #)", 1, 0, 1, 1, 1).due("ways(0, 0)", 1);
        Stage.says("part 1", "and has all SKILLS it wants");
        for (int wants = 0; wants < 16; wants++) {
            for (int has = 0; has < 16; has++) {
                int due = (has & wants) == wants ? 1 : 0;
                Stage.of("a1," + has + ";a1," + has + ";p1," + wants + ",1,0;o0,0;k1,0;").due("player(#, 4)", due, due)
                    .due("player(0, 2)", 1).due("player(1, 3)", 1).due("ways(0, 0)", 2 * due);
            }
        }
    }

    private static void part() {
        Stage.says("promise 7", "BAD: PARTS such as there are");
        for (int parts = 1; parts <= 8; parts++) {
            Stage.of("a1,0;" + "p9,7,5,1;".repeat(parts)).due("part(" + (parts - 1) + ", #)", 9, 7, 5, 1, 0, NONE)
                .dueAll("part(" + parts + ", #)", BAD, "0", "1", "2", "3", "4", "5");
        }
        Stage.of(TEN_PLAYERS + EIGHT_PARTS).dueAll("part(#, 0)", BAD, NEVER).dueAll("part(#, 5)", BAD, NEVER);
        Stage.says("promise 7", "what is 0 to 5");
        Stage.of(TEN_PLAYERS + EIGHT_PARTS).dueAll("part(7, #)", BAD, "6", "-1", "MIN", "MAX")
            .dueAll("part(0, #)", BAD, "6", "7", "-1");
        Stage.says("promise 7", "SIZE, SKILLS, LINES, C: the least and the most");
        Stage.of("a1,0;p0,0,1,0;p99,15,999,1;").due("part(0, #)", 0, 0, 1, 0).due("part(1, #)", 99, 15, 999, 1);
        Stage.says("promise 7", "SCENES in which it is on, as bits: none, the first, the last, all");
        Stage.of("a1,0;p1,0,1,0;p1,0,1,0;p1,0,1,0;p1,0,1,0;c5,1;" + "c4,1;".repeat(8) + "c6,1;")
            .due("part(#, 4)", 1, 512, 1023, 0);
        Stage.says("promise 7", "whose OWN it is (5; NONE)");
        Stage.of(TEN_PLAYERS + "p1,0,1,0;p1,0,1,0;p1,0,1,0;o0,0;o9,1;k5,2;").due("part(#, 5)", 0, 9, NONE);
    }

    private static final String FOUR = "a1,0;p1,0,1,0;p1,0,1,0;p1,0,1,0;p1,0,1,0;";

    private static void both() {
        Stage.says("promise 8", "both PARTS (unlike)");
        for (int i = 0; i < 8; i++) {
            Stage.of("a1,0;" + EIGHT_PARTS).due("both(" + i + ", " + i + ")", BAD).due("both(" + i + ", " + (i + 1) % 8 + ")", 1);
        }
        Stage.empty().due("both(0, 0)", BAD).due("both(0, 1)", BAD).due("both(1, 0)", BAD);
        Stage.says("promise 8", "BAD: PARTS such as there are");
        for (int parts = 1; parts <= 8; parts++) {
            Stage.of("a1,0;" + "p9,0,9,0;".repeat(parts)).due("both(0, " + parts + ")", BAD).due("both(" + parts + ", 0)", BAD)
                .due("both(0, " + (parts - 1) + ")", parts == 1 ? BAD : 1)
                .due("both(" + (parts - 1) + ", 0)", parts == 1 ? BAD : 1);
        }
        Stage.of("a1,0;" + EIGHT_PARTS).dueAll("both(0, #)", BAD, NEVER).dueAll("both(#, 0)", BAD, NEVER);
        Stage.says("promise 8", "SCENES and changes alone looked at");
        Stage.of("a1,0;p1,15,9,0;p1,15,9,0;").due("player(0, 4)", 0).due("both(0, 1)", 1);
        Stage.says("part 1", "no PLAYER has two PARTS that are on in one SCENE");
        for (int scene = 0; scene < 10; scene++) {
            String row = "c1,1;".repeat(scene) + "c3,1;" + "c2,1;".repeat(9 - scene);
            Stage.of(FOUR + row).due("both(0, 1)", 0).due("both(1, 0)", 0).due("both(0, 2)", 1).due("both(2, 3)", 1);
        }
        Stage.of(FOUR + "c1,1;".repeat(5) + "c2,1;".repeat(5)).due("both(0, 1)", 1).due("both(1, 0)", 1);
    }

    /** Parts 0 and 1 stand in some scenes; 4 is another part. */
    private static void dueChange(String scenes, int minutes, int want) {
        Stage.of(FOUR + scenes + "m" + minutes + ";").due("both(0, 1)", want).due("both(1, 0)", want);
    }

    private static void changes() {
        Stage.says("part 1", "the SCENES between take as many minutes together as a change or more");
        for (int minutes = 1; minutes <= 99; minutes++) {
            String row = "c1,9;c4," + minutes + ";c2,9;";
            dueChange(row, minutes - 1, 1);
            dueChange(row, minutes, 1);
            if (minutes < 99) {
                dueChange(row, minutes + 1, 0);
            }
        }
        Stage.says("part 1", "the SCENES between .. together");
        dueChange("c2,9;c4,50;c8,49;c1,9;", 99, 1);
        dueChange("c2,9;c4,50;c8,48;c1,9;", 99, 0);
        dueChange("c1,99;c4,12;c4,12;c4,12;c4,12;c4,12;c4,12;c4,12;c4,15;c2,99;", 99, 1);
        dueChange("c1,99;c4,12;c4,12;c4,12;c4,12;c4,12;c4,12;c4,12;c4,14;c2,99;", 99, 0);
        Stage.says("part 1", "no SCENE between: no minute");
        dueChange("c1,99;c2,99;", 0, 1);
        dueChange("c1,99;c2,99;", 1, 0);
        dueChange("c2,99;c1,99;", 1, 0);
        Stage.says("part 1", "ahead of the first and behind the last one there is no change");
        dueChange("c4,1;c1,1;c4,9;c2,1;c4,1;", 9, 1);
        dueChange("c1,1;c1,1;c1,1;c8,1;", 99, 1);
        dueChange("c4,1;", 99, 1);
        dueChange("", 99, 1);
        Stage.says("part 1", "the next later one in which it is on in another PART (in SCENES between it is not on)");
        dueChange("c1,9;c1,9;c2,9;", 5, 0);
        dueChange("c1,9;c4,5;c1,9;c4,5;c2,9;", 5, 1);
        dueChange("c1,9;c4,5;c1,9;c4,4;c2,9;", 5, 0);
        dueChange("c1,9;c2,9;c4,9;c2,9;", 5, 0);
        Stage.says("part 1", "no change from a PART to itself");
        dueChange("c1,1;c1,1;c4,1;c1,1;c4,9;c2,1;c2,1;c4,1;c2,1;", 9, 1);
        Stage.says("part 1", "each change, there and back");
        dueChange("c1,1;c4,9;c2,1;c4,9;c1,1;", 9, 1);
        dueChange("c1,1;c4,9;c2,1;c4,8;c1,1;", 9, 0);
        dueChange("c1,1;c4,8;c2,1;c4,9;c1,1;", 9, 0);
        dueChange("c1,1;c4,9;c2,1;c4,9;c1,1;c4,9;c2,1;c4,9;c1,1;c2,1;", 9, 0);
    }

    private static void severalParts() {
        Stage.says("part 1", "a third PART between two makes the time shorter");
        String three = "a1,0;p1,0,1,0;p1,0,1,0;p1,0,1,0;p1,0,1,0;o0,0;o0,1;o0,2;";
        Stage.of(three + "c1,1;c4,5;c2,1;m5;").due("ways(0, 8)", 0).due("ways(0, 12)", 1).due("both(0, 1)", 1);
        Stage.of(three + "c1,1;c8,5;c4,5;c8,5;c2,1;m5;").due("ways(0, 8)", 1);
        Stage.of(three + "c1,1;c8,5;c4,5;c8,4;c2,1;m5;").due("ways(0, 8)", 0).due("ways(0, 12)", 1);
        Stage.says("part 1", "the first of three PARTS that a PLAYER has counts as the last one does");
        Stage.of(three + "c5,1;c2,1;").due("ways(0, 8)", 0).due("least(0, 8, -1)", NONE).due("ways(0, 9)", 1)
            .due("ways(0, 12)", 1);
        Stage.says("part 1", "a PART that is CUT takes nobody's time");
        Stage.of(three + "c7,9;").due("ways(0, #)", 0, 0, 0, 0, 0, 0, 0, 0, 0, 0, 0, 1, 0, 1, 1, 1);
    }

    private static void ways() {
        Stage.says("promise 9", "WAYS: none, one, the most");
        Stage.of("a1,0;p1,0,1,0;").due("ways(0, 0)", 0).due("ways(0, 1)", 1);
        Stage.empty().due("ways(0, 0)", 1);
        String many = "a1,0;".repeat(4) + EIGHT_PARTS;
        for (int i = 0; i < 8; i++) {
            many += "o0," + i + ";k1," + i + ";k2," + i + ";k3," + i + ";";
        }
        Stage.of(many).due("ways(0, 0)", 65536).due("ways(8, 0)", 6561).due("ways(14, 0)", 1).due("ways(15, 0)", 0)
            .due("ways(0, 255)", 1);
        Stage.says("promise 9", "all PARTS in one SCENE: each PLAYER one PART");
        Stage.of(many + "c255,1;").due("ways(0, 0)", 0).due("ways(0, 15)", 24).due("ways(0, 7)", 0).due("ways(1, 31)", 6);
        Stage.says("part 1", "for each other PART a PLAYER that is not OFF");
        Stage.of("a1,0;a1,0;p1,0,1,0;p1,0,1,0;o0,0;k1,0;o1,1;").due("ways(#, 0)", 2, 1, 0, 0);
        Stage.says("promise 9", "a PART that is CUT needs none, whether it may be CUT or not");
        Stage.of("a1,0;a1,0;p1,0,1,0;p1,0,1,0;o0,0;k1,0;o1,1;").due("ways(3, #)", 0, 0, 0, 1).due("ways(0, #)", 2, 1, 2, 1);
    }

    private static void setsOfPlayersAndParts() {
        for (int players = 1; players <= 10; players++) {
            Stage.says("promise 9", "BAD: 0; sets of PLAYERS such as there are");
            int all = (1 << players) - 1;
            Stage s = Stage.of("a1,0;".repeat(players) + "p1,0,1,0;o0,0;").due("ways(" + (all - 1) + ", 0)", 1)
                .due("ways(" + all + ", 1)", 1);
            s.dueAll("ways(#, 1)", 0, Integer.toString(all + 1), "-1", "MIN", "1073741824")
                .dueAll("ways(#, 0)", 0, Integer.toString(all + 1), "MIN", "1024");
            Stage.says("promise 10", "BAD: sets of PLAYERS such as there are");
            s.due("least(" + (all - 1) + ", 0, -1)", 0)
                .dueAll("least(#, 0, -1)", BAD, Integer.toString(all + 1), "-1", "MIN", "MAX", "1024");
            Stage.says("promise 11", "BAD: sets of PLAYERS such as there are");
            s.due("cuts(" + (all - 1) + ", 0)", 0)
                .dueAll("cuts(#, 0)", BAD, Integer.toString(all + 1), "-1", "MIN", "MAX", "1024");
        }
        for (int parts = 1; parts <= 8; parts++) {
            Stage.says("promise 9", "BAD: 0; sets of PARTS such as there are");
            int all = (1 << parts) - 1;
            Stage s = Stage.of("a1,0;" + "p1,0,1,0;".repeat(parts) + "o0,0;").due("ways(0, " + (all - 1) + ")", 1)
                .due("ways(0, " + all + ")", 1);
            s.dueAll("ways(0, #)", 0, Integer.toString(all + 1), Integer.toString(2 * all + 1), "-1", "-2", "MIN", "MAX");
            Stage.says("promise 10", "BAD: sets of PARTS such as there are");
            s.due("least(0, " + all + ", -1)", 0)
                .dueAll("least(0, #, -1)", BAD, Integer.toString(all + 1), "-1", "-2", "MIN", "MAX", "256");
        }
    }

    private static void least() {
        String two = "a1,0;a1,0;p1,0,9,0;p1,0,9,0;o0,0;o1,1;";
        Stage.says("promise 10", "the PLAYER of a PART (part >= 0: PARTS such as there are), -1, -2, -3");
        Stage.of(two).dueAll("least(0, 0, #)", BAD, "-4", "-5", "2", "8", "MIN", "MAX").due("least(0, 0, #)", 0, 1)
            .dueAll("least(0, 0, -#)", 0, "1", "2", "3");
        for (int parts = 1; parts <= 8; parts++) {
            String cover = "";
            for (int i = 0; i < parts; i++) {
                cover += "k0," + i + ";";
            }
            Stage.of("a9,0;" + "p9,0,9,0;".repeat(parts) + cover).due("least(0, 0, " + (parts - 1) + ")", 0)
                .due("least(0, 0, " + parts + ")", BAD).due("least(0, 0, -1)", 100 * parts).due("least(0, 0, -2)", parts);
        }
        Stage.says("promise 10", "NO: it is CUT");
        Stage.of(two).due("least(0, 1, #)", NO, 1).due("least(0, 2, #)", 0, NO).due("least(0, 3, #)", NO, NO);
        Stage.says("promise 10", "NONE");
        Stage.of(two).due("least(1, 0, #)", NONE, NONE).dueAll("least(1, 0, -#)", NONE, "1", "2", "3").due("least(1, 1, -1)", 0)
            .due("least(1, 2, 0)", NONE);
        Stage.says("BAD .. NO .. NONE", "of several the first in this order");
        Stage.of(two).due("least(3, 1, #)", NO, NONE, BAD).due("least(4, 1, 0)", BAD).due("least(0, 5, 0)", BAD)
            .due("least(3, 0, 2)", BAD).due("least(3, 0, -4)", BAD).due("least(4, 0, 0)", BAD).due("least(3, 4, 0)", BAD);
        Stage.says("part 1", "all PARTS CUT: a CASTING of none");
        Stage.of(two).due("least(3, 3, -1)", 0).due("least(3, 3, -2)", 0).due("least(3, 3, -3)", 0).due("ways(3, 3)", 1);
    }

    private static void trouble() {
        Stage.says("part 1", "TAILOR times how far HEIGHT is off SIZE");
        for (int tailor = 0; tailor <= 9; tailor++) {
            String t = "t" + tailor + ";k0,0;";
            Stage.of("a0,0;p99,0,1,0;" + t).due("least(0, 0, -1)", 100 + 99 * tailor);
            Stage.of("a99,0;p0,0,1,0;" + t).due("least(0, 0, -1)", 100 + 99 * tailor);
            Stage.of("a50,0;p50,0,1,0;" + t).due("least(0, 0, -1)", 100);
            Stage.of("a50,0;p51,0,1,0;" + t).due("least(0, 0, -1)", 100 + tailor);
            Stage.of("a50,0;p49,0,1,0;" + t).due("least(0, 0, -1)", 100 + tailor);
        }
        Stage.says("part 1", "by one that has it as its OWN: N less KEPT LINES");
        Stage.of("a0,0;p99,0,100,0;o0,0;t9;").due("least(0, 0, -1)", 0).then("rest(1)").due("least(0, 0, -1)", 10)
            .due("least(0, 0, -2)", 0);
        Stage.of("a0,0;p99,0,100,0;o0,0;k0,0;t9;").due("least(0, 0, -1)", 0).due("least(0, 0, -2)", 0);
        Stage.says("part 1", "and N less KEPT LINES: none forgotten, all");
        Stage s = Stage.of("a1,0;p1,0,999,0;k0,0;f50;").due("least(0, 0, -1)", 100).due("least(0, 0, -3)", 0);
        s.then("rest(1)").due("least(0, 0, -1)", 600).due("least(0, 0, -3)", 500);
        s.then("rest(1)").due("least(0, 0, -1)", 1099).due("least(0, 0, -3)", 999);
        s.then("rest(99)").due("least(0, 0, -1)", 1099).due("least(0, 0, -3)", 999);
        Stage.says("part 1", "TROUBLE of a CASTING: that of all its PARTS together, the most");
        String most = "a0,0;" + "p99,0,999,0;".repeat(8) + "t9;f99;";
        for (int i = 0; i < 8; i++) {
            most += "k0," + i + ";";
        }
        Stage.of(most).then("rest(2)").due("least(0, 0, -1)", 8 * (100 + 891 + 999)).due("least(0, 0, -2)", 8)
            .due("least(0, 0, -3)", 7992).due("least(0, 127, -1)", 1990).due("night(0)", 15920);
    }

    private static void firstOfSeveral() {
        Stage.says("part 1", "of several the first by the PLAYER of PART 0");
        Stage.of("a1,0;a1,0;a1,0;p1,0,9,0;k2,0;k1,0;k0,0;").due("least(#, 0, 0)", 0, 1, 0, 2, 0, 1, 0, NONE);
        Stage.says("part 1", "one less is least, though its PLAYER comes later");
        Stage.of("a1,0;a2,0;p2,0,9,0;k0,0;k1,0;").due("least(0, 0, 0)", 1).due("least(0, 0, -1)", 100);
        Stage.of("a1,0;a2,0;p2,0,9,0;p2,0,9,0;k0,0;k1,0;").due("least(0, 2, 0)", 1).due("least(0, 2, -1)", 100);
        Stage.says("part 1", "then 1, ..");
        String each = "a1,0;a1,0;a1,0;p1,0,9,0;p1,0,9,0;p1,0,9,0;";
        Stage.of(each + "k0,0;k1,0;k2,0;k0,1;k1,1;k2,1;k0,2;k1,2;k2,2;c7,1;").due("least(0, 0, #)", 0, 1, 2)
            .due("least(0, 1, #)", NO, 0, 1).due("least(4, 4, #)", 0, 1, NO).due("least(1, 2, #)", 1, NO, 2);
        Stage.says("part 1", "PART 0 is looked at ahead of PART 1");
        // 0 and 1 as 100 and 101, or 1 and 0 as 101 and 100
        Stage.of("a1,0;a2,0;p1,0,9,0;p1,0,9,0;k0,0;k1,0;k0,1;k1,1;c3,1;").due("least(0, 0, #)", 0, 1).due("least(0, 0, -1)", 201);
        // 0 and 1 as 110 and 109, or 1 and 0 as 119 and 100
        Stage.of("a20,0;a29,0;p10,0,9,0;p20,0,9,0;k0,0;k1,0;k0,1;k1,1;c3,1;").due("least(0, 0, #)", 0, 1)
            .due("least(0, 0, -1)", 219);
        // 0 and 1 as 110 and 111, or 1 and 0 as 110 and 109
        Stage.of("a30,0;a10,0;p20,0,9,0;p21,0,9,0;k0,0;k1,0;k0,1;k1,1;c3,1;").due("least(0, 0, #)", 1, 0)
            .due("least(0, 0, -1)", 219);
        Stage.says("part 1", "(a PART that is CUT has none)");
        Stage.of("a1,0;a1,0;p1,0,9,0;p1,0,9,0;k0,0;k1,0;k0,1;k1,1;c3,1;").due("least(0, 1, 1)", 0).due("least(0, 0, 1)", 1)
            .due("least(0, 1, -2)", 1).due("least(0, 1, -1)", 100);
    }

    private static void cuts() {
        Stage.says("promise 11", "what is 0, 1");
        Stage.empty().due("cuts(0, #)", 0, 0).dueAll("cuts(0, #)", BAD, "2", "-1", "MIN", "MAX");
        Stage.says("part 2", "CUTS: nothing need be CUT");
        Stage.of("a1,0;p1,0,9,1;o0,0;").due("cuts(0, #)", 0, 0);
        Stage.says("part 2", "all are CUT");
        Stage.of("a1,0;" + "p1,0,999,1;".repeat(8)).due("cuts(0, #)", 255, 7992).due("cuts(1, #)", 255, 7992);
        Stage.says("part 2", "sets of PARTS that may be CUT; none");
        Stage.of("a1,0;p1,0,9,1;p1,0,9,0;").due("cuts(0, #)", NONE, NONE);
        Stage.of("a1,0;p1,0,9,1;p1,0,9,0;o0,1;").due("cuts(0, #)", 1, 9).due("cuts(1, #)", NONE, NONE);
        Stage.of("a1,0;" + "p1,0,9,1;".repeat(7) + "p1,0,9,0;").due("cuts(0, #)", NONE, NONE);
        Stage.says("BAD .. NONE", "of several the first in this order");
        Stage.of("a1,0;p1,0,9,0;").due("cuts(1, 0)", NONE).due("cuts(2, 0)", BAD).due("cuts(1, 2)", BAD).due("cuts(-1, 1)", BAD);
    }

    private static void dueCut(int first, int second, int third, int set, int lines) {
        String parts = "p1,0," + first + ",1;p1,0," + second + ",1;p1,0," + third + ",1;";
        Stage.of("a1,0;" + parts + "o0,0;o0,1;o0,2;c5,1;c6,1;").due("cuts(0, #)", set, lines);
    }

    private static void cheapestOfSeveral() {
        // PART 2 is on with 0, and with 1: 0 and 1 together are CUT, or 2
        Stage.says("part 2", "the one of the fewest LINES together");
        dueCut(5, 5, 9, 4, 9);
        dueCut(5, 5, 11, 3, 10);
        dueCut(1, 1, 1, 4, 1);
        dueCut(1, 1, 999, 3, 2);
        Stage.says("part 2", "of several the least bits");
        dueCut(5, 5, 10, 3, 10);
        dueCut(1, 8, 9, 3, 9);
        Stage.of("a1,0;p1,0,9,1;p1,0,9,1;o0,0;o0,1;c3,1;").due("cuts(0, #)", 1, 9);
        Stage.of("a1,0;p1,0,10,1;p1,0,9,1;o0,0;o0,1;c3,1;").due("cuts(0, #)", 2, 9);
        Stage.of("a1,0;p1,0,9,0;p1,0,9,1;o0,0;o0,1;c3,1;").due("cuts(0, #)", 2, 9);
        Stage.says("part 2", "by which there is a CASTING: nobody that is OFF");
        Stage.of("a1,0;a1,0;p1,0,9,1;p1,0,7,1;o0,0;o1,1;").due("cuts(#, 0)", 0, 1, 2, 3).due("cuts(#, 1)", 0, 9, 7, 16);
    }

    private static Stage onTour() {
        return Stage.of("a60,3;a50,1;a40,0;p55,1,300,1;p45,0,120,0;c1,9;c2,9;o0,0;k1,0;o1,1;k2,1;k0,1;x0,1,50;f7;")
            .then("rest(2)").then("night(4)").then("keep()").then("rest(1)").then("night(1)").then("told(1, 77)");
    }

    private static void nothingChanges() {
        Stage.says("BAD .. NO .. NONE", "nothing changes then: player, part, both, ways, least, cuts");
        for (String bad : new String[] {"player(3, 0)", "player(0, 5)", "part(2, 0)", "part(0, 6)", "both(0, 0)", "both(0, 2)",
            "least(8, 0, 0)", "least(0, 4, 0)", "least(0, 0, 2)", "least(0, 0, -4)", "cuts(8, 0)", "cuts(0, 2)"}) {
            Stage.refused(CastingEdgesTest::onTour, bad, BAD);
        }
        Stage.refused(CastingEdgesTest::onTour, "ways(8, 0)", 0);
        Stage.refused(CastingEdgesTest::onTour, "ways(0, 4)", 0);
        Stage.refused(CastingEdgesTest::onTour, "least(0, 1, 0)", NO);
        Stage.refused(CastingEdgesTest::onTour, "least(7, 0, 0)", NONE);
        Stage.refused(CastingEdgesTest::onTour, "cuts(7, 0)", NONE);
    }
}
