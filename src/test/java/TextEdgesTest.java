/** The edges of THE TEXT: its bytes, items and numbers, a new object, write, wipe, fault and lay. */
public final class TextEdgesTest {
    private static final int BAD = Stage.BAD, NO = Stage.NO, FULL = Stage.FULL, NONE = Stage.NONE;
    private static final String TWO = "a9,0;a9,0;p9,0,9,0;p9,0,9,0;";
    private static final String TEN_PLAYERS = "a9,0;".repeat(10), EIGHT_PARTS = "p9,0,9,0;".repeat(8);

    public static void main(String[] args) {
        newObject();
        longestText();
        bytesOfANumber();
        wipe();
        letters();
        figures();
        separators();
        boundsOfNumbers();
        toldAhead();
        mostItems();
        lastOneCounts();
        placeOfTheFault();
        lay();
        laidAnew();
        Stage.end();
    }

    private static void newObject() {
        Stage.says("promise 1", "As told; THE TEXT is empty");
        Stage.empty().due("count(#)", 1, 1, 0, 0, 0, 0, 0).due("fault()", NONE).due("wipe()", 0);
        Stage.says("part 1", "at first a50,0;p50,0,10,0;o0,0;");
        Stage.empty().due("player(0, #)", 50, 0, 1, 0, 1).due("part(0, #)", 50, 0, 10, 0, 0, 0)
            .due("player(1, 0)", BAD).due("part(1, 0)", BAD);
        Stage.says("part 1", "today is 0 at first. SAID: .. (0 at first for all)");
        Stage.empty().due("count(4)", 0).due("lines(0, 0)", 10);
        Stage.says("promises 21 to 26", "a new object: nothing is OWED, TOLD, KEPT");
        Stage.empty().due("owed(0)", 0).due("told(0, 5)", 0).due("back()", NO);
        Stage.empty().due("wrong()", NONE);
        Stage.says("part 3", "nobody has a cold in the first company");
        Stage.empty().due("cold(0, 0, 12)", 1000000).due("cold(0, 14, 10)", 1000000).due("cold(0, 14, 0)", 0);
        Stage.says("part 1", "the first company has m, t, f, w as without");
        Stage.empty().then("rest(1)").due("lines(0, 0)", 9).due("night(0)", 1).due("owed(0)", 100);
    }

    private static Stage filled(int length) {
        return Stage.empty().put("m".repeat(length));
    }

    private static void longestText() {
        Stage.says("part 1", "A TEXT is bytes (400 at most)");
        filled(399).due("write(1, 59)", 400).due("count(3)", 400);
        filled(400).due("write(1, 59)", FULL).due("count(3)", 400);
        Stage.says("promise 2", "FULL: each number of bytes up to 400, and one more");
        for (int n = 1; n <= 8; n++) {
            String write = "write(" + n + ", 59)";
            filled(400 - n).due(write, 400).due(write, FULL).due("count(3)", 400);
            Stage beyond = filled(401 - n).due(write, FULL).due("count(3)", 401 - n);
            if (n > 1) {
                beyond.due("write(" + (n - 1) + ", 59)", 400);
            }
        }
        Stage.says("promise 2", "FULL: nothing changes then");
        String nearlyFull = TWO + "m01;".repeat(92) + "t";
        Stage.refused(() -> Stage.of(TWO).put(nearlyFull.substring(TWO.length())), "write(4, 829111099)", FULL);
        Stage.of(TWO + "m01;".repeat(92)).put("t").due("count(3)", 397).due("write(4, 0)", FULL)
            .due("write(2, 14651)", 399).due("fault()", NONE);
        Stage.says("promise 2", "BAD; FULL: BAD is ahead of FULL");
        filled(400).dueAll("write(#, 0)", BAD, "0", "9", "-1", "MIN", "MAX").due("count(3)", 400);
        Stage.says("part 1", "a TEXT of just 400 bytes is read to its end");
        Stage.empty().put("m01;".repeat(100)).due("fault()", NONE);
        Stage.empty().put("m01;".repeat(99) + "m01,").due("fault()", 396);
        Stage.empty().put("m01;".repeat(99) + "m012").due("fault()", 396);
        Stage.empty().put("m01;".repeat(99) + "m1;m").due("fault()", 399);
    }

    private static void bytesOfANumber() {
        Stage.says("promise 2", "the lowest n bytes (1 to 8) of v");
        for (int n = 1; n <= 8; n++) {
            Stage.empty().due("write(" + n + ", 0)", n).due("count(3)", n);
        }
        Stage.empty().dueAll("write(#, 97)", BAD, "0", "9", "-1", "MIN", "MAX").due("count(3)", 0);
        Stage.says("promise 2", "BAD: nothing changes then");
        Stage.refused(() -> Stage.of(TWO), "write(0, 97)", BAD);
        Stage.refused(() -> Stage.of(TWO), "write(9, 97)", BAD);
        Stage.says("promise 2", "the highest of these first, come behind THE TEXT");
        String text = "a12,3;a4,15;p45,6,789,1;p0,1,2,0;";
        for (int n = 1; n <= 8; n++) {
            for (long above : new long[] {0, -1, 0x6161616161616161L}) {
                Stage s = Stage.empty();
                writeBy(s, text, n, above);
                s.due("lay()", 2).due("player(#, 0)", 12, 4).due("player(#, 1)", 3, 15).due("part(0, #)", 45, 6, 789, 1)
                    .due("part(1, #)", 0, 1, 2, 0).due("count(3)", text.length());
            }
        }
        Stage.says("promise 2", "v is of any sign");
        Stage.empty().put("m1;").then("write(8, " + Long.MIN_VALUE + ")").due("count(3)", 11).due("fault()", 3);
        Stage.empty().then("write(8, -1)").due("fault()", 0);
        Stage.empty().put("m1").due("write(1, " + (Long.MIN_VALUE + ';') + ")", 3).due("fault()", NONE);
    }

    /** What stands in v above the bytes that are written must not matter. */
    private static void writeBy(Stage s, String text, int most, long above) {
        for (int at = 0; at < text.length(); at += most) {
            int n = Math.min(most, text.length() - at);
            long v = above;
            for (int b = 0; b < n; b++) {
                v = v << 8 | text.charAt(at + b);
            }
            s.due("write(" + n + ", " + v + ")", at + n);
        }
    }

    private static void wipe() {
        Stage.says("promise 3", "THE TEXT is empty: how long it was");
        Stage.empty().due("wipe()", 0).due("wipe()", 0);
        filled(1).due("wipe()", 1).due("wipe()", 0).due("count(3)", 0).due("fault()", NONE);
        filled(400).due("wipe()", 400).due("write(8, 0)", 8).due("count(3)", 8);
        filled(400).then("wipe()").put("m01;".repeat(100)).due("fault()", NONE).due("wipe()", 400);
        Stage.says("promise 3", "what stood there ahead of it is no more");
        Stage.empty().put("m1;m55;").then("wipe()").put("m1;m5").due("fault()", 3);
        Stage.empty().put("m1;m55;").then("wipe()").put("m1;m55").due("fault()", 3);
        Stage.empty().put("m1;m5").then("wipe()").put("m1;").due("fault()", NONE);
        Stage.says("promise 3", "the company that is LAID stays");
        Stage.of(TWO).due("wipe()", TWO.length()).due("count(#)", 2, 2, 0, 0).due("player(1, 0)", 9).due("lay()", NO);
    }

    /** An item behind some that are right: taken, or a fault at its first byte, also with an item behind it. */
    private static void dueTaken(String ahead, String item, boolean taken) {
        int want = taken ? NONE : ahead.length();
        Stage.compare("fault of " + ahead + item, Stage.empty().put(ahead + item).call("fault()"), want);
        Stage.compare("fault of " + ahead + item + "m1;", Stage.empty().put(ahead + item + "m1;").call("fault()"), want);
    }

    private static void letters() {
        Stage.says("part 1", "each a letter: of all bytes just these, with as many numbers as told");
        String[][] forms = {{";", ""}, {"1;", "mtf"}, {"1,1;", "ackow"}, {"0,1,1;", "x"}, {"1,1,1,1;", "p"},
            {"1,1,1,1,1;", ""}, {"1,1,1,1,1,1,1,1;", ""}};
        for (String[] form : forms) {
            for (char letter = 0; letter < 256; letter++) {
                dueTaken(TWO, letter + form[0], form[1].indexOf(letter) >= 0);
            }
        }
    }

    private static final String[] RIGHT_ITEMS = {"a1,1;", "p1,1,1,1;", "c1,1;", "o1,1;", "k1,1;", "x1,0,1;", "m1;", "t1;", "f1;", "w1,1;"};

    private static void figures() {
        Stage.says("part 1", "numbers (one to three figures)");
        for (String item : RIGHT_ITEMS) {
            for (int at = 1; at < item.length(); at += 2) {
                String ahead = item.substring(0, at), number = item.substring(at, at + 1), behind = item.substring(at + 1);
                dueTaken(TWO, ahead + behind, false);
                dueTaken(TWO, ahead + number + behind, true);
                dueTaken(TWO, ahead + "0" + number + behind, true);
                dueTaken(TWO, ahead + "00" + number + behind, true);
                dueTaken(TWO, ahead + "000" + number + behind, false);
                dueTaken(TWO, ahead + "0000000" + number + behind, false);
            }
        }
        Stage.says("part 1", "numbers (one to three figures): zeros ahead change none of them");
        Stage.of("a010,008;a09,015;p077,008,099,001;c001,010;o00,000;k001,00;x00,1,010;m012;t09;f010;w010,09;")
            .due("player(0, #)", 10, 8, 1, 0, 1).due("player(1, #)", 9, 15, 0, 1, 1).due("part(0, #)", 77, 8, 99, 1, 1, 0)
            .due("least(1, 0, -1)", 100 + 9 * 68).due("cold(1, 1, 1)", 100000).due("night(1)", 712).due("owed(1)", 10 + 9 * 99 / 10)
            .due("lines(0, 0)", 89);
        Stage.says("part 1", "of all bytes just 0 to 9 are figures");
        for (char c = 0; c < 256; c++) {
            boolean figure = c >= '0' && c <= '9';
            dueTaken(TWO, "m" + c + ";", figure);
            dueTaken(TWO, "a5" + c + ",1;", figure);
            dueTaken(TWO, "w1" + c + "1,0;", figure);
        }
    }

    private static void separators() {
        Stage.says("part 1", "parted by ,");
        for (char c = 0; c < 256; c++) {
            dueTaken(TWO, "a5" + c + "1;", c == ',');
            dueTaken(TWO, "p1,1" + c + "1,1;", c == ',');
        }
        Stage.says("part 1", "and ; (behind the last one, too)");
        for (char c = 0; c < 256; c++) {
            dueTaken(TWO, "a5,1" + c + "m1;", c == ';');
        }
        for (String item : RIGHT_ITEMS) {
            String open = item.substring(0, item.length() - 1);
            dueTaken(TWO, item, true);
            for (int length = 1; length < item.length(); length++) {
                Stage.compare("fault of " + item.substring(0, length),
                    Stage.empty().put(TWO + item.substring(0, length)).call("fault()"), TWO.length());
            }
            dueTaken(TWO, open + ",;", false);
            dueTaken(TWO, open + " ;", false);
            dueTaken(TWO, item.charAt(0) + "," + item.substring(1), false);
            Stage.compare("; twice", Stage.empty().put(TWO + item + ";").call("fault()"), TWO.length() + item.length());
        }
    }

    /** Of 0 to 999 in the place of # just those from low to high are taken. */
    private static void dueBounds(String words, String ahead, String item, int low, int high) {
        Stage.says("part 1", words);
        for (int n = 0; n <= 999; n++) {
            dueTaken(ahead, item.replace("#", Integer.toString(n)), n >= low && n <= high);
        }
    }

    private static void boundsOfNumbers() {
        dueBounds("a PLAYER: HEIGHT H (0 to 99)", "", "a#,0;", 0, 99);
        dueBounds("a PLAYER: SKILLS S (bits, 0 to 15)", "", "a0,#;", 0, 15);
        dueBounds("a PART: SIZE H (0 to 99)", "", "p#,0,1,0;", 0, 99);
        dueBounds("a PART: SKILLS S it wants (0 to 15)", "", "p0,#,1,0;", 0, 15);
        dueBounds("a PART: N LINES (1 to 999)", "", "p0,0,#,0;", 1, 999);
        dueBounds("a PART: it may be CUT (C 1) or not (0)", "", "p0,0,1,#;", 0, 1);
        dueBounds("a SCENE: (bits, 1 to 255)", EIGHT_PARTS, "c#,1;", 1, 255);
        dueBounds("a SCENE: M minutes (1 to 99)", TWO, "c1,#;", 1, 99);
        dueBounds("a cold goes .. by C hundredths a day (0 to 100)", TWO, "x0,1,#;", 0, 100);
        dueBounds("a change takes M minutes (0 to 99)", "", "m#;", 0, 99);
        dueBounds("TAILOR: T (0 to 9)", "", "t#;", 0, 9);
        dueBounds("FORGETTING: R hundredths a day (0 to 99)", "", "f#;", 0, 99);
        dueBounds("PAY: B pence a night (0 to 999)", "", "w#,0;", 0, 999);
        dueBounds("L pence for ten LINES (0 to 99)", "", "w0,#;", 0, 99);
    }

    private static void toldAhead() {
        for (int parts = 0; parts <= 8; parts++) {
            dueBounds("a SCENE: the set of PARTS .. such as are told ahead", "p9,0,9,0;".repeat(parts), "c#,1;", 1, (1 << parts) - 1);
        }
        Stage.says("part 1", "oP,I and kP,I: both told ahead");
        for (int players = 0; players <= 10; players++) {
            for (int parts = 0; parts <= 8; parts++) {
                dueFirstBeyond(players, parts);
            }
        }
        for (String letter : new String[] {"o", "k"}) {
            dueBounds(letter + "P,I: PLAYERS told ahead", TEN_PLAYERS + EIGHT_PARTS, letter + "#,7;", 0, 9);
            dueBounds(letter + "P,I: PARTS told ahead", TEN_PLAYERS + EIGHT_PARTS, letter + "9,#;", 0, 7);
        }
        dueBounds("xP,Q,C: P told ahead, unlike", TEN_PLAYERS, "x#,9,5;", 0, 8);
        dueBounds("xP,Q,C: Q told ahead, unlike", TEN_PLAYERS, "x0,#,5;", 1, 9);
        Stage.says("part 1", "xP,Q,C: both told ahead, unlike");
        for (int players = 0; players <= 10; players++) {
            for (int p = 0; p <= players; p++) {
                for (int q = 0; q <= players; q++) {
                    dueTaken("a9,0;".repeat(players), "x" + p + "," + q + ",5;", p != q && p < players && q < players);
                }
            }
        }
        Stage.says("part 1", "told ahead, not behind");
        dueTaken("", "o0,0;" + TWO, false);
        dueTaken("", "k0,0;" + TWO, false);
        dueTaken("", "c1,1;" + TWO, false);
        dueTaken("a9,0;", "x0,1,5;" + TWO, false);
        dueTaken("a9,0;p9,0,9,0;", "c2,1;" + TWO, false);
    }

    private static void dueFirstBeyond(int players, int parts) {
        String ahead = "a9,0;".repeat(players) + "p9,0,9,0;".repeat(parts);
        for (String letter : new String[] {"o", "k"}) {
            String last = letter + Math.max(0, players - 1) + "," + Math.max(0, parts - 1) + ";";
            dueTaken(ahead, last, players > 0 && parts > 0);
            dueTaken(ahead, letter + players + ",0;", false);
            dueTaken(ahead, letter + "0," + parts + ";", false);
        }
    }

    private static void dueMost(String ahead, String item, int most) {
        String full = ahead + item.repeat(most);
        dueTaken(ahead + item.repeat(most - 1), item, true);
        dueTaken(full, item, false);
        Stage.compare("first beyond", Stage.empty().put(full + item + item).call("fault()"), full.length());
    }

    private static void mostItems() {
        Stage.says("part 1", "a PLAYER .. 10 at most");
        dueMost("", "a1,1;", 10);
        Stage.says("part 1", "PLAYERS 0, 1, .. as they come");
        Stage.of("a0,9;a11,8;a22,7;p1,0,1,0;a33,6;a44,5;a55,4;a66,3;a77,2;a88,1;a99,0;").due("count(0)", 10)
            .due("player(#, 0)", 0, 11, 22, 33, 44, 55, 66, 77, 88, 99).due("player(#, 1)", 9, 8, 7, 6, 5, 4, 3, 2, 1, 0);
        Stage.says("part 1", "a PART .. 8 at most");
        dueMost("", "p1,1,1,1;", 8);
        Stage.says("part 1", "PARTS 0, 1, .. as they come");
        Stage.of("p0,7,1,0;p1,6,2,1;p2,5,3,0;a1,0;p3,4,4,1;p4,3,5,0;p5,2,6,1;p98,1,998,0;p99,0,999,1;").due("count(1)", 8)
            .due("part(#, 0)", 0, 1, 2, 3, 4, 5, 98, 99).due("part(#, 1)", 7, 6, 5, 4, 3, 2, 1, 0)
            .due("part(#, 2)", 1, 2, 3, 4, 5, 6, 998, 999).due("part(#, 3)", 0, 1, 0, 1, 0, 1, 0, 1);
        Stage.says("part 1", "a SCENE .. 10 at most");
        dueMost("p1,1,1,1;", "c1,1;", 10);
        Stage.says("part 1", "SCENES .. in this row");
        Stage.of("a1,0;" + EIGHT_PARTS + "c1,1;c2,1;c4,1;c8,1;c16,1;c32,1;c64,1;c128,1;c255,1;c129,1;").due("count(2)", 10)
            .due("part(#, 4)", 769, 258, 260, 264, 272, 288, 320, 896);
        Stage.says("part 1", "kP,I .. 24 of these at most");
        dueMost("a1,1;p1,1,1,1;", "k0,0;", 24);
        Stage.of("a1,0;p1,0,1,0;" + "k0,0;".repeat(24)).due("count(6)", 24).due("player(0, 3)", 1).due("ways(0, 0)", 1);
        Stage.says("part 1", "o, x, m, t, f, w: as many as the text holds");
        for (String item : new String[] {"o0,0;", "x0,1,5;", "m1;", "t1;", "f1;", "w1,1;"}) {
            dueTaken(TWO, item.repeat(360 / item.length()), true);
        }
        Stage.says("part 1", "all at their most in one TEXT");
        String covers = "";
        for (int k = 0; k < 24; k++) {
            covers += "k" + (k % 10) + "," + (k / 3) + ";";
        }
        String own = "o0,0;o1,1;o2,2;o3,3;o4,4;o5,5;o6,6;o9,7;";
        Stage.of(TEN_PLAYERS + EIGHT_PARTS + "c1,1;".repeat(10) + own + covers).due("count(#)", 10, 8, 10, 332, 0, 0, 24);
    }

    private static void lastOneCounts() {
        Stage.says("part 1", "each PART has one at most, the last one told");
        Stage.of(TWO + "o0,0;o1,0;o0,1;o0,1;").due("part(#, 5)", 1, 0).due("player(#, 2)", 2, 1);
        Stage.of(TWO + "o0,0;o1,0;o0,0;").due("part(#, 5)", 0, NONE).due("player(#, 2)", 1, 0).due("player(#, 4)", 1, 0);
        Stage.says("part 1", "a cold goes from PLAYER P to Q, and from Q to P; the last one of both");
        Stage.of(TWO + "x0,1,30;").due("cold(1, 1, 1)", 300000).due("cold(2, 1, 0)", 300000);
        Stage.of(TWO + "x0,1,30;x1,0,70;").due("cold(1, 1, 1)", 700000).due("cold(2, 1, 0)", 700000);
        Stage.of(TWO + "x0,1,30;x0,1,0;").due("cold(1, 1, 1)", 0).due("cold(2, 1, 0)", 0);
        Stage.says("part 1", "a cold without x: 0");
        Stage.of(TWO).due("cold(1, 14, 1)", 0);
        String row = "a1,0;p1,0,1,0;p1,0,1,0;p1,0,1,0;c1,1;c4,5;c2,1;";
        Stage.says("part 1", "a change takes M minutes (.. 0 without; of several the last one counts)");
        Stage.of(row).due("both(0, 1)", 1).due("both(0, 2)", 1);
        Stage.of(row + "m0;").due("both(0, 1)", 1).due("both(0, 2)", 1);
        Stage.of(row + "m6;m5;").due("both(0, 1)", 1).due("both(0, 2)", 0);
        Stage.of(row + "m5;m6;").due("both(0, 1)", 0);
        Stage.of("m99;" + row + "m0;").due("both(0, 1)", 1).due("both(0, 2)", 1);
        String cover = "a90,0;p60,0,100,0;k0,0;";
        Stage.says("part 1", "TAILOR: T (.. 1 without; of several the last one counts)");
        Stage.of(cover).due("least(0, 0, -1)", 130);
        Stage.of(cover + "t0;").due("least(0, 0, -1)", 100);
        Stage.of(cover + "t9;").due("least(0, 0, -1)", 370);
        Stage.of("t9;" + cover + "t2;").due("least(0, 0, -1)", 160);
        Stage.of("t2;" + cover + "t9;").due("least(0, 0, -1)", 370);
        Stage.says("part 1", "FORGETTING: R hundredths a day (.. 10 without; of several the last one counts)");
        Stage.of(cover).then("rest(1)").due("lines(0, 0)", 90);
        Stage.of(cover + "f0;").then("rest(1)").due("lines(0, 0)", 100);
        Stage.of(cover + "f99;").then("rest(1)").due("lines(0, 0)", 1);
        Stage.of("f99;" + cover + "f3;").then("rest(1)").due("lines(0, 0)", 97);
        Stage.of("f3;" + cover + "f99;").then("rest(1)").due("lines(0, 0)", 1);
        Stage.says("part 1", "PAY (.. 100, 5 without; of several the last one counts)");
        Stage.of(cover).then("night(0)").due("owed(0)", 150);
        Stage.of(cover + "w0,0;").then("night(0)").due("owed(0)", 0);
        Stage.of(cover + "w999,99;").then("night(0)").due("owed(0)", 1989);
        Stage.of("w999,99;" + cover + "w7,1;").then("night(0)").due("owed(0)", 17);
        Stage.of("w7,1;" + cover + "w999,99;").then("night(0)").due("owed(0)", 1989);
    }

    private static void placeOfTheFault() {
        Stage.says("promise 4", "FAULT. NONE");
        Stage.empty().due("fault()", NONE);
        Stage.empty().put(TWO).due("fault()", NONE);
        Stage.says("part 1", "the place (from 0 on) of the first byte of the first ITEM that is not so");
        Stage.empty().put("b1;").due("fault()", 0);
        Stage.empty().put("a99,16;").due("fault()", 0);
        Stage.empty().put("m1;m100;m2;m200;").due("fault()", 3);
        Stage.empty().put("m1;p1,1,1,").due("fault()", 3);
        Stage.empty().put("m01;".repeat(99) + "m1;;").due("fault()", 399);
        Stage.says("part 1", "an ITEM that comes too soon is the first, though it would do further on");
        Stage.empty().put("o0,0;a1,0;p1,0,1,0;o0,0;").due("fault()", 0);
        Stage.says("promise 4", "asking changes nothing");
        Stage.refused(() -> busy().put("a1,1;?"), "fault()", busyText().length() + 5);
        Stage.refused(() -> busy().put("a1,1;"), "fault()", NONE);
    }

    private static String busyText() {
        return "a60,3;a50,1;a40,0;p55,1,300,1;p45,0,120,0;c1,9;c2,9;o0,0;k1,0;o1,1;k2,1;k0,1;x0,1,50;x1,2,25;f7;";
    }

    /** A company in the middle of its tour: every answer of it would show a change. */
    private static Stage busy() {
        return Stage.of(busyText()).then("rest(2)").then("night(4)").then("keep()").then("rest(1)").then("night(1)")
            .then("keep()").then("rehearse(0, 0)").then("rest(3)").then("told(1, 77)");
    }

    private static void lay() {
        Stage.says("part 1", "LAID is a TEXT .. with one PLAYER and one PART at least (NO else");
        Stage.empty().due("lay()", NO);
        Stage.empty().put("m1;").due("lay()", NO);
        Stage.empty().put("a1,0;").due("lay()", NO).put("p1,0,1,0;").due("lay()", 1);
        Stage.empty().put("p1,0,1,0;").due("lay()", NO).put("a1,0;").due("lay()", 1);
        Stage.empty().put(TEN_PLAYERS).due("lay()", NO);
        Stage.empty().put(EIGHT_PARTS).due("lay()", NO);
        Stage.says("part 1", "LAID is a TEXT without FAULT");
        Stage.empty().put("a1,0;p1,0,1,0;m1").due("lay()", NO).put(";").due("lay()", 1);
        Stage.empty().put("?a1,0;p1,0,1,0;").due("lay()", NO);
        Stage.says("promise 5", "LAID: how many PLAYERS");
        for (int players = 1; players <= 10; players++) {
            Stage.empty().put("a9,0;".repeat(players) + "p1,0,1,0;").due("lay()", players).due("count(0)", players)
                .due("player(" + (players - 1) + ", 0)", 9).due("player(" + players + ", 0)", BAD);
        }
        Stage.says("promise 5", "NO: nothing changes then");
        Stage.refused(() -> busy().put("?"), "lay()", NO);
        Stage.refused(() -> busy().put("a1,0"), "lay()", NO);
        Stage.refused(() -> wiped(busy()), "lay()", NO);
        Stage.refused(() -> wiped(busy()).put("a1,0;"), "lay()", NO);
        Stage.refused(() -> wiped(busy()).put("p1,0,1,0;t3;f50;"), "lay()", NO);
    }

    private static Stage wiped(Stage s) {
        return s.then("wipe()");
    }

    private static void laidAnew() {
        Stage.says("promise 5", "today is 0, nothing is OWED, TOLD, KEPT (THE TEXT stays)");
        busy().due("count(4)", 8).due("count(5)", 2).due("wrong()", 0).due("lay()", 3).due("count(4)", 0).due("count(5)", 0)
            .due("back()", NO).due("owed(#)", 0, 0, 0).due("wrong()", NONE).due("told(#, 0)", 0, 0, 0)
            .due("count(3)", busyText().length()).due("lay()", 3);
        Stage.says("part 1", "SAID .. (0 at first for all)");
        busy().then("lay()").due("lines(0, #)", 300, 120).then("rest(1)").due("lines(0, #)", 279, 111).due("lines(2, 1)", 111);
        Stage.says("promise 5", "what one company tells is without in the next");
        String told = "a1,15;a1,15;p1,15,9,1;p1,15,9,1;c1,1;c2,1;o0,0;o1,1;k0,1;k1,0;x0,1,100;m99;t9;f99;w999,99;";
        dueWithout(wiped(Stage.of(told)));
        dueWithout(wiped(wiped(Stage.of(told)).put(told).then("lay()")));
        dueWithout(wiped(Stage.of(told).then("lay()").then("lay()").then("fault()")));
        Stage.says("promise 4", "what a TEXT tells whose FAULT alone is asked is without in the next");
        dueWithout(wiped(Stage.empty().put(told).then("fault()")));
        dueWithout(wiped(Stage.empty().put(told + "?").then("fault()").then("lay()")));
        Stage.says("promise 5", "what was found out of one company is forgotten with it");
        String weak = "a1,0;a1,0;a1,0;p1,0,1,0;o0,0;x0,1,100;", met = "a1,0;a1,0;a1,0;p1,0,1,0;o0,0;k1,0;k2,0;x0,2,100;";
        wiped(Stage.of(weak).due("weak(#, 0)", BAD, 1, 2).due("fewest()", 2).due("engaged(1, #)", 10, 0)
            .due("engaged(2, #)", 10, 1)
            .due("cold(1, 1, #)", 1000000, 1000000, 0)).put(met).due("lay()", 3).due("weak(#, 0)", BAD, 0, 0).due("fewest()", 0)
            .due("engaged(1, #)", NONE, NONE).due("engaged(2, #)", NONE, NONE).due("cold(1, 1, #)", 1000000, 0, 1000000)
            .due("cold(1, 1, 10)", 1000000);
        String one = "a1,0;a1,0;a1,1;p1,1,1,0;o2,0;", two = "a1,0;a1,0;a1,0;p1,0,1,0;o2,0;", three = "a1,0;a1,0;a1,0;p1,0,1,0;o2,0;k0,0;";
        wiped(wiped(Stage.of(one).due("engaged(1, #)", NONE, NONE).due("engaged(2, #)", NONE, NONE).due("fewest()", NONE))
            .put(two).due("lay()", 3).due("engaged(1, #)", 0, 0).due("engaged(2, #)", 0, 1).due("fewest()", 2))
            .put(three).due("lay()", 3).due("engaged(2, #)", 10, 0).due("fewest()", 1);
        String nobody = "a1,0;p1,0,9,0;p1,0,9,0;k0,0;", somebody = "a1,0;p1,0,9,0;k0,0;";
        wiped(Stage.of(nobody).due("least(0, 0, -1)", NONE).due("rehearsals(9, -1)", 0)).put(somebody).due("lay()", 1)
            .due("least(0, 0, -1)", 100);
    }

    /** All is as without, but for a cover. */
    private static void dueWithout(Stage s) {
        s.put("a1,0;a1,0;p2,0,100,0;p2,0,100,0;k0,0;").due("lay()", 2).due("count(#)", 2, 2, 0, 37, 0, 0, 1)
            .due("both(0, 1)", 1).due("part(#, 5)", NONE, NONE).due("part(#, 4)", 0, 0).due("part(#, 3)", 0, 0)
            .due("player(#, 3)", 1, 0)
            .due("player(#, 4)", 1, 0).due("cold(1, 14, 1)", 0).due("cuts(0, 0)", NONE).due("least(0, 2, -1)", 101)
            .due("night(0)", NONE).then("rest(1)").due("lines(0, 0)", 90);
        wiped(s).put("a1,0;a1,0;p2,0,100,0;p2,0,100,0;c1,1;c2,1;k0,0;k0,1;").due("lay()", 2).due("both(0, 1)", 1)
            .due("night(0)", 202)
            .due("owed(#)", 200, 0);
    }
}
