/** The sentences of promises 1 to 31, each with a test of its edges and of what it refuses. */
public final class PromiseEdgeTest {
    private static final int NONE = -1000000, BAD = -1000001, STATE = -1000002, FULL = -1000003;
    private static final int NULL = -1000011, PLACE = -1000012, KIND = -1000013, SIZE = -1000014, STORE = -1000015;
    private static final int FAULT = -1000100;
    private static final int LEAST = Integer.MIN_VALUE, GREATEST = Integer.MAX_VALUE;
    private static final String BOY = "law 5 9;person boy 2 1 99;";

    private static final Due due = new Due("PromiseEdgeTest");
    private static Sentences sentences;

    public static void main(String[] args) throws Exception {
        sentences = new Sentences(due);
        rows();
        texts();
        acts();
        lookedAt();
        foretold();
        foretoldByRows();
        imagesAndAsks();
        for (int promise = 1; promise <= 31; promise++) {
            sentences.nothingLeft("Promise " + promise);
        }
        due.end();
    }

    private static void is(String call, int got, int want) {
        due.is(call, got, want);
    }

    private static void says(int promise, String sentence, Runnable test) {
        sentences.test("Promise " + promise, sentence, test);
    }

    private static void rows() {
        says(1, "No TOWER.", PromiseEdgeTest::noTower);
        says(2, "A ROW of a LANE with n ITEMS, in place of what is there: n.", PromiseEdgeTest::rowInPlace);
        says(2, "BAD: ROW, LANE, n above 40; SIZE.", PromiseEdgeTest::rowRefused);
        says(3, "ITEM i becomes v, its lowest bits, as many as the LANE has: what it is then.", PromiseEdgeTest::setBits);
        says(3, "BAD: ROW; NULL; PLACE.", PromiseEdgeTest::setRefused);
        says(4, "n ITEMS of a from i on come to b from j on, as they were ahead: n.", PromiseEdgeTest::copyAsAhead);
        says(4, "BAD: ROWS; NULL; STORE; PLACE (i, j, n below 0, or beyond an end).", PromiseEdgeTest::copyRefused);
        says(5, "A ROW is missing from now on: how many ITEMS it had.", PromiseEdgeTest::dropMissing);
        says(5, "BAD; NULL.", PromiseEdgeTest::dropRefused);
    }

    private static void texts() {
        says(6, "The lowest n bytes of w (1 to 8), the highest of them first, come behind the tape: how many it has.",
                PromiseEdgeTest::feedBytes);
        says(6, "BAD: n; FULL: none comes.", PromiseEdgeTest::feedRefused);
        says(7, "The tape, empty then, is read: how many PEOPLE there are.", PromiseEdgeTest::towerEmpties);
        says(7, "-1000100 less the place of a FAULT: all stays.", PromiseEdgeTest::towerFault);
        says(8, "The number of the latest FAULT; 0 before one.", PromiseEdgeTest::latestFault);
    }

    private static void acts() {
        says(9, "One goes up (1), down (-1), or stands (0): what he did.", PromiseEdgeTest::goWays);
        says(9, "BAD.", PromiseEdgeTest::goRefused);
        says(10, "A STONE is hung on a SIDE: where it was.", PromiseEdgeTest::hangSides);
        says(10, "BAD.", PromiseEdgeTest::hangRefused);
        says(11, "n HALVES (1 to 64): behind how many of these it was BEYOND first (NONE: none).",
                PromiseEdgeTest::halvesBeyond);
        says(11, "BAD; STATE: no TOWER (ahead of BAD);", PromiseEdgeTest::halvesRefused);
        says(11, "FULL: the MINUTE would be above 9999.", PromiseEdgeTest::halvesFull);
        says(12, "A YEAR: 1.", PromiseEdgeTest::yearOne);
        says(12, "STATE: no TOWER; FULL: it has CREPT beyond 9999 either way.", PromiseEdgeTest::yearFull);
        says(13, "The latest ACT is undone: how many can be undone yet.", PromiseEdgeTest::undoLatest);
        says(13, "STATE: none.", PromiseEdgeTest::undoRefused);
    }

    private static void lookedAt() {
        says(14, "Of one: 0 STEP (-1: outside), 1 which way he goes, 2 BURDEN, 3 PACE, 4 SIDE (NONE).",
                PromiseEdgeTest::personTold);
        says(14, "BAD.", PromiseEdgeTest::personRefused);
        says(15, "LEAN east (what = 0), north (1), whether it is BEYOND (2: 1, 0), CREPT east (3), north (4).",
                PromiseEdgeTest::leanTold);
        says(15, "BAD; STATE: no TOWER (ahead of BAD).", PromiseEdgeTest::leanRefused);
    }

    private static void foretold() {
        says(16, "WORST (what = 0), FIRST (1; NONE).", PromiseEdgeTest::worstTold);
        says(16, "BAD; STATE: no TOWER (ahead of BAD).", PromiseEdgeTest::worstRefused);
        says(17, "MOST PEOPLE; NONE.", PromiseEdgeTest::mostTold);
        says(17, "STATE: no TOWER.", PromiseEdgeTest::mostRefused);
        says(18, "TWO: d (what = 0), WORST by it (1).", PromiseEdgeTest::twoTold);
        says(18, "BAD: alike, one who is not outside, too.", PromiseEdgeTest::twoRefused);
        says(19, "HANG: WORST (k = -1), the SIDE of STONE k.", PromiseEdgeTest::stonesTold);
        says(19, "BAD; STATE: no TOWER (ahead of BAD).", PromiseEdgeTest::stonesRefused);
        says(21, "RESCUE: who is brought out as the k-th; NONE: not so many, no such order.", PromiseEdgeTest::rescueTold);
        says(21, "BAD: k below 0; STATE: no TOWER (ahead of BAD).", PromiseEdgeTest::rescueRefused);
        says(22, "FALL; NONE.", PromiseEdgeTest::fallTold);
        says(22, "STATE: no TOWER.", PromiseEdgeTest::fallRefused);
    }

    private static void foretoldByRows() {
        says(20, "MARKS: STEPS (-1: outside) of all PEOPLE, ITEMS of a ROW from its beginning on; LEANS -999 to 999: how"
                + " many sets (i = -1), the i-th; NONE.", PromiseEdgeTest::marksTold);
        says(20, "BAD: ROW, LEANS, i below -1; STATE: no TOWER (ahead of BAD); NULL; PLACE;",
                PromiseEdgeTest::marksRefused);
        says(20, "then BAD: an ITEM that is no STEP.", PromiseEdgeTest::marksNoStep);
        says(23, "BELLS, n ITEMS of a ROW from its beginning on: the sum (k = -1), the k-th bell; NONE: not so many.",
                PromiseEdgeTest::bellsTold);
        says(23, "BAD: ROW, n, k below -1; NULL; PLACE;", PromiseEdgeTest::bellsRefused);
        says(23, "then BAD: an ITEM that is no NOD.", PromiseEdgeTest::bellsNoNod);
    }

    private static void imagesAndAsks() {
        says(24, "An IMAGE (0, 1) is kept of the TOWER: 1.", PromiseEdgeTest::imageKept);
        says(24, "BAD; STATE: no TOWER.", PromiseEdgeTest::imageRefused);
        says(25, "The TOWER is as an IMAGE kept it (no ACT can be undone then): 1.", PromiseEdgeTest::restored);
        says(25, "BAD; STATE: none was kept.", PromiseEdgeTest::restoreRefused);
        says(26, "The KIND of one, as told (1 to 5).", PromiseEdgeTest::kindTold);
        says(26, "BAD.", PromiseEdgeTest::kindRefused);
        says(27, "One is taken as one of a KIND (0 .. 5): his number.", PromiseEdgeTest::asTold);
        says(27, "BAD; KIND: he is no such one.", PromiseEdgeTest::asRefused);
        says(28, "An ASK (0, 1) of one.", PromiseEdgeTest::askTold);
        says(28, "BAD.", PromiseEdgeTest::askRefused);
        says(28, "THE TRACE is empty ahead of it.", PromiseEdgeTest::traceEmptied);
        says(29, "Number i of THE TRACE; NONE.", PromiseEdgeTest::traceTold);
        says(30, "How many: 0 ROWS, 1 PEOPLE, 2 STONES, 3 the MINUTE, 4 ACTS that can be undone, 5 PEOPLE on STEPS, 6"
                + " bytes on the tape.", PromiseEdgeTest::countTold);
        says(30, "BAD.", PromiseEdgeTest::countRefused);
        says(31, "Of the latest call with a ROW, or as(), that was not BAD, STATE, FULL: the number of its FINDING;",
                PromiseEdgeTest::statusOfLatest);
        says(31, "0: it had none, or there was none.", PromiseEdgeTest::statusNone);
    }

    // ---- 1 to 5

    private static void noTower() {
        LeanTower x = new LeanTower();
        is("most", x.most(), STATE);
        is("nobody", x.person(0, 0), BAD);
        is("no stone", x.hang(0, 0), BAD);
        is("nobody to set out", x.two(0, 1, 0), BAD);
        is("people", x.count(1), 0);
        is("stones", x.count(2), 0);
        is("minute", x.count(3), 0);
        is("inside", x.count(5), 0);
    }

    private static void rowInPlace() {
        LeanTower x = new LeanTower();
        is("40", x.row(7, 2, 40), 40);
        is("item 39", x.set(7, 39, 70000), 70000);
        is("none, in place of 40", x.row(7, 0, 0), 0);
        is("no item is left", x.set(7, 0, 1), PLACE);
        is("40 again", x.row(7, 1, 40), 40);
        is("of another lane", x.set(7, 39, 70000), 70000 - 65536);
        is("one row", x.count(0), 1);
        x.set(7, 0, 5);
        x.set(7, 39, 6);
        is("5", x.bells(7, 1, -1), 5);
        is("as long again", x.row(7, 1, 40), 40);
        is("its first item is 0", x.bells(7, 1, -1), BAD);
        x.copy(7, 39, 7, 0, 1);
        is("so is its last", x.bells(7, 1, -1), BAD);
    }

    private static void rowRefused() {
        LeanTower x = new LeanTower();
        for (int row : new int[] {LEAST, -1, 8, GREATEST}) {
            is("row " + row, x.row(row, 0, 1), BAD);
        }
        for (int lane : new int[] {LEAST, -1, 3, GREATEST}) {
            is("lane " + lane, x.row(0, lane, 1), BAD);
        }
        for (int n : new int[] {41, GREATEST}) {
            is("n " + n, x.row(0, 0, n), BAD);
        }
        for (int n : new int[] {-1, LEAST}) {
            is("n " + n, x.row(0, 0, n), SIZE);
        }
        is("none was made", x.count(0), 0);
    }

    private static void setBits() {
        LeanTower x = new LeanTower();
        x.row(0, 0, 1);
        x.row(1, 1, 1);
        x.row(2, 2, 1);
        int[] values = {127, 128, 255, 256, -128, -129, 32767, 32768, 65535, 65536, -32768, -32769, LEAST, GREATEST};
        for (int v : values) {
            is("byte of " + v, x.set(0, 0, v), (byte) v);
            is("short of " + v, x.set(1, 0, v), (short) v);
            is("int of " + v, x.set(2, 0, v), v);
        }
    }

    private static void setRefused() {
        LeanTower x = new LeanTower();
        for (int row : new int[] {LEAST, -1, 8, GREATEST}) {
            is("row " + row, x.set(row, 0, 1), BAD);
        }
        is("missing", x.set(0, 0, 1), NULL);
        is("missing, no place either", x.set(0, -1, 1), NULL);
        x.row(0, 0, 40);
        for (int i : new int[] {LEAST, -1, 40, GREATEST}) {
            is("place " + i, x.set(0, i, 1), PLACE);
        }
        x.row(0, 0, 0);
        is("an empty row has no place", x.set(0, 0, 1), PLACE);
        x.drop(0);
        is("missing again", x.set(0, 0, 1), NULL);
    }

    private static LeanTower figures() {
        LeanTower x = new LeanTower();
        x.row(0, 0, 5);
        for (int i = 0; i < 5; i++) {
            x.set(0, i, i + 1);
        }
        return x;
    }

    private static int read(LeanTower x, int row, int n) {
        int all = 0;
        x.row(7, 0, 1);
        for (int i = 0; i < n; i++) {
            x.copy(row, i, 7, 0, 1);
            all = 10 * all + x.bells(7, 1, -1);
        }
        return all;
    }

    private static void copyAsAhead() {
        LeanTower x = figures();
        is("up over itself", x.copy(0, 0, 0, 1, 4), 4);
        is("as they were ahead", read(x, 0, 5), 11234);
        LeanTower y = figures();
        is("down over itself", y.copy(0, 2, 0, 0, 3), 3);
        is("as they were ahead", read(y, 0, 5), 34545);
        LeanTower z = figures();
        is("all of it onto itself", z.copy(0, 0, 0, 0, 5), 5);
        is("as they were", read(z, 0, 5), 12345);
        z.row(1, 0, 5);
        is("a whole row", z.copy(0, 0, 1, 0, 5), 5);
        is("there", read(z, 1, 5), 12345);
        is("nothing, from the end to the end", z.copy(0, 5, 1, 5, 0), 0);
        z.row(2, 0, 0);
        is("nothing of nothing", z.copy(2, 0, 2, 0, 0), 0);
        z.set(1, 0, 9);
        is("what is copied is no longer the same", read(z, 0, 5), 12345);
    }

    private static void copyRefused() {
        LeanTower x = figures();
        x.row(1, 0, 3);
        x.row(2, 1, 3);
        for (int row : new int[] {LEAST, -1, 8, GREATEST}) {
            is("a " + row, x.copy(row, 0, 1, 0, 0), BAD);
            is("b " + row, x.copy(0, 0, row, 0, 0), BAD);
        }
        is("a is missing", x.copy(3, 0, 1, 0, 0), NULL);
        is("b is missing", x.copy(0, 0, 3, 0, 0), NULL);
        is("two lanes", x.copy(0, 0, 2, 0, 0), STORE);
        int[][] places = {{-1, 0, 1}, {0, -1, 1}, {0, 0, -1}, {5, 0, 1}, {6, 0, 0}, {0, 3, 1}, {0, 4, 0}, {0, 0, 4},
            {3, 0, 3}, {LEAST, 0, 0}, {0, LEAST, 0}, {0, 0, LEAST}, {GREATEST, 0, 1}, {0, GREATEST, 1},
            {0, 0, GREATEST}, {GREATEST, GREATEST, GREATEST}, {1, 1, GREATEST}, {-1, -1, 0}};
        for (int[] p : places) {
            is("copy " + p[0] + " " + p[1] + " " + p[2], x.copy(0, p[0], 1, p[1], p[2]), PLACE);
        }
        is("nothing came", x.bells(1, 1, -1), BAD);
    }

    private static void dropMissing() {
        LeanTower x = new LeanTower();
        x.row(0, 0, 0);
        x.row(7, 2, 40);
        is("none", x.drop(0), 0);
        is("40", x.drop(7), 40);
        is("no rows", x.count(0), 0);
        is("bells", x.bells(7, 1, 0), NULL);
        x.row(7, 2, 3);
        is("another one", x.drop(7), 3);
    }

    private static void dropRefused() {
        LeanTower x = new LeanTower();
        for (int row : new int[] {LEAST, -1, 8, GREATEST}) {
            is("row " + row, x.drop(row), BAD);
        }
        is("missing", x.drop(0), NULL);
        x.row(0, 0, 1);
        x.drop(0);
        is("missing again", x.drop(0), NULL);
    }

    // ---- 6 to 8

    private static void feedBytes() {
        LeanTower x = new LeanTower();
        is("one byte of eight", x.feed(0x7777777777777700L + 'l', 1), 1);
        is("two", x.feed(0x7777777777770000L + ('a' << 8) + 'w', 2), 3);
        is("eight, below 0 by its highest", new LeanTower().feed(-1, 8), 8);
        is("five", x.feed(0x2034203133L, 5), 8);
        is("one", x.feed(';', 1), 9);
        is("law 4 13;", x.tower(), 0);
        is("13 is within", x.count(6), 0);
        LeanTower y = new LeanTower();
        y.feed(0xFFL, 1);
        y.feed(0x6C61772034203B00L, 8);
        is("a high byte is one byte", y.tower(), FAULT);
    }

    private static void feedRefused() {
        LeanTower x = new LeanTower();
        for (int n : new int[] {LEAST, -1, 0, 9, GREATEST}) {
            is("n " + n, x.feed(0, n), BAD);
        }
        is("none came", x.count(6), 0);
        Due.feed(x, " ".repeat(396));
        for (int n = 5; n <= 8; n++) {
            is("full by " + n, x.feed(0, n), FULL);
        }
        is("none came", x.count(6), 396);
        is("the last four", x.feed(0x20202020, 4), 400);
        is("full", x.feed(0, 1), FULL);
    }

    private static void towerEmpties() {
        LeanTower x = new LeanTower();
        is("nobody", Due.read(x, "law 4 1;"), 0);
        is("empty", x.count(6), 0);
        is("the empty tape is a fault", x.tower(), FAULT);
        is("seven", Due.read(x, "law 4 1;" + "person boy 1 1 3;".repeat(7)), 7);
        is("empty", x.count(6), 0);
        Due.read(x, "law 5");
        is("empty behind a fault", x.count(6), 0);
        is("so a whole text is read", Due.read(x, "law 4 1;"), 0);
    }

    private static void towerFault() {
        LeanTower x = Due.tower("law 5 9;person boy 2 1 99;stone 5 0;");
        x.go(0, 1);
        x.halves(2);
        x.year();
        is("at the end of 400", Due.read(x, "law 4 1;" + " ".repeat(391) + "#"), FAULT - 399);
        is("at the beginning", Due.read(x, "#"), FAULT);
        is("behind two whole people", Due.read(x, "law 4 1;person boy 1 1 0;person boy 1 1 0;#"), FAULT - 42);
        is("people stay", x.count(1), 1);
        is("stones stay", x.count(2), 1);
        is("the minute stays", x.count(3), 2);
        is("acts stay", x.count(4), 3);
        is("steps stay", x.person(0, 0), 1);
        is("undone as ever", x.undo(), 2);
        is("nothing is there still", Due.read(new LeanTower(), "law"), FAULT - 3);
    }

    private static void latestFault() {
        LeanTower x = new LeanTower();
        is("before one", x.fault(), 0);
        Due.read(x, "law 4 1;");
        is("none yet", x.fault(), 0);
        Due.read(x, "law 3 1;");
        is("2", x.fault(), 2);
        Due.read(x, "law 4 1;");
        is("the latest, still", x.fault(), 2);
        Due.read(x, "law 4 1;" + "stone 1 1;".repeat(5));
        is("3", x.fault(), 3);
        x.tower();
        is("1", x.fault(), 1);
    }

    // ---- 9 to 13

    private static void goWays() {
        LeanTower x = Due.tower("law 5 9;" + "person boy 2 1 99;".repeat(7));
        is("the last one", x.go(6, 1), 0);
        is("as he does", x.go(6, 1), 1);
        is("down", x.go(6, -1), 1);
        is("stands", x.go(6, 0), -1);
        is("the others stand", x.person(5, 1), 0);
        x.go(6, 1);
        x.halves(5);
        is("at the top he stood", x.go(6, -1), 0);
    }

    private static void goRefused() {
        is("no tower", new LeanTower().go(0, 0), BAD);
        LeanTower x = Due.tower(BOY);
        for (int person : new int[] {LEAST, -1, 1, 7, GREATEST}) {
            is("person " + person, x.go(person, 1), BAD);
        }
        for (int way : new int[] {LEAST, -2, 2, GREATEST}) {
            is("way " + way, x.go(0, way), BAD);
        }
        is("he stands", x.person(0, 1) + x.count(4), 0);
    }

    private static void hangSides() {
        LeanTower x = Due.tower("law 5 99;" + "stone 20 3;".repeat(4));
        is("the last one", x.hang(3, 0), 3);
        is("it leans", x.lean(0), 20);
        is("where it is", x.hang(3, 0), 0);
        is("south again", x.hang(3, 3), 0);
        is("it leans", x.lean(0), 0);
        is("the first one", x.hang(0, 1), 3);
    }

    private static void hangRefused() {
        is("no tower", new LeanTower().hang(0, 0), BAD);
        is("no stones", Due.tower(BOY).hang(0, 0), BAD);
        LeanTower x = Due.tower("law 5 99;stone 20 3;");
        for (int stone : new int[] {LEAST, -1, 1, 4, GREATEST}) {
            is("stone " + stone, x.hang(stone, 1), BAD);
        }
        for (int side : new int[] {LEAST, -1, 4, GREATEST}) {
            is("side " + side, x.hang(0, side), BAD);
        }
        is("it hangs there", x.lean(1), -20);
        is("no act", x.count(4), 0);
    }

    private static void halvesBeyond() {
        LeanTower x = Due.tower("law 32 9;person pilgrim 10 4 99;");
        is("one", x.halves(1), NONE);
        x.go(0, 1);
        is("behind the third of these", x.halves(64), 3);
        is("minute 65", x.count(3), 65);
        x.halves(63);
        is("at the top", x.person(0, 0), 31);
        x.go(0, -1);
        is("behind the fourth", x.halves(4), 4);
        is("it is already: behind the first", x.halves(2), 1);
        is("only between, not in the end", passesBy().halves(3), 1);
        LeanTower y = Due.tower("law 32 9;person pilgrim 10 4 15;person pilgrim 10 4 17;");
        y.go(0, -1);
        y.go(1, -1);
        is("behind the 64th", y.halves(64), 64);
        LeanTower z = Due.tower("law 32 9;person pilgrim 10 1 0;");
        z.go(0, -1);
        is("beyond ahead of them doesn't count", z.halves(1), NONE);
    }

    private static LeanTower passesBy() {
        LeanTower x = Due.tower("law 4 9;person pilgrim 10 1 2;stone 10 0;");
        x.go(0, -1);
        return x;
    }

    private static void halvesRefused() {
        for (int n : new int[] {LEAST, 0, 1, 64, 65, GREATEST}) {
            is("no tower, n " + n, new LeanTower().halves(n), STATE);
        }
        LeanTower x = Due.tower(BOY);
        for (int n : new int[] {LEAST, -1, 0, 65, GREATEST}) {
            is("n " + n, x.halves(n), BAD);
        }
        is("no minute, no act", x.count(3) + x.count(4), 0);
    }

    private static void halvesFull() {
        LeanTower x = Due.tower(BOY);
        for (int i = 0; i < 156; i++) {
            x.halves(64);
        }
        is("9984", x.count(3), 9984);
        is("16 would be 10000", x.halves(16), FULL);
        is("64", x.halves(64), FULL);
        is("65 is BAD", x.halves(65), BAD);
        is("nothing happened", x.count(3), 9984);
        is("15", x.halves(15), NONE);
        is("9999", x.count(3), 9999);
        is("one more", x.halves(1), FULL);
        is("years pass", x.year(), 1);
        x.undo();
        x.undo();
        is("undone", x.halves(15), NONE);
    }

    private static void yearOne() {
        LeanTower x = Due.tower("law 5 99;stone 20 0;stone 10 3;");
        is("year", x.year(), 1);
        is("crept", x.lean(3) * 10 + x.lean(4), 19);
        is("the minute stays", x.count(3), 0);
        is("upright, too", Due.tower("law 5 99;").year(), 1);
        is("beyond, too", Due.tower("law 5 1;stone 20 0;").year(), 1);
    }

    private static void yearFull() {
        is("no tower", new LeanTower().year(), STATE);
        for (int side = 0; side < 4; side++) {
            LeanTower x = Due.tower("law 5 99;" + ("stone 20 " + side + ";").repeat(4));
            int what = 3 + side % 2;
            int before = 0;
            for (int years = 0; years < 100 && Math.abs(x.lean(what)) <= 9999; years++) {
                before = x.lean(what);
                is("a year from " + before, x.year(), 1);
            }
            int far = x.lean(what);
            is("beyond 9999", Math.abs(far) > 9999 ? 1 : 0, 1);
            is("full", x.year(), FULL);
            is("it creeps no farther", x.lean(what), far);
            is("no act more", x.undo(), 23);
            is("as it was", x.lean(what), before);
            is("a year, since it has not yet", x.year(), 1);
            is("full again", x.year(), FULL);
            is("halves pass", x.halves(1), 1);
        }
    }

    private static void undoLatest() {
        LeanTower x = Due.tower("law 5 99;person boy 2 1 99;stone 20 0;");
        x.go(0, 1);
        x.hang(0, 2);
        x.halves(2);
        x.year();
        is("the year", x.undo(), 3);
        is("not crept", x.lean(3), 0);
        is("the halves", x.undo(), 2);
        is("outside, in minute 0", x.person(0, 0) + x.count(3), -1);
        is("the stone", x.undo(), 1);
        is("east", x.lean(0), 20);
        is("the way", x.undo(), 0);
        is("stands", x.person(0, 1), 0);
    }

    private static void undoRefused() {
        is("no tower", new LeanTower().undo(), STATE);
        LeanTower x = Due.tower(BOY);
        is("no act", x.undo(), STATE);
        x.year();
        is("one", x.undo(), 0);
        is("none", x.undo(), STATE);
        x.year();
        x.image(0);
        x.restore(0);
        is("none behind an image", x.undo(), STATE);
        x.year();
        Due.read(x, BOY);
        is("none behind a text", x.undo(), STATE);
    }

    // ---- 14, 15

    private static void personTold() {
        LeanTower x = Due.tower("law 32 99;person boy 1 4 99;person bishop 20 1 31;person widow 20 3 30;");
        int[][] told = {{-1, 0, 0, 4, NONE}, {31, 0, 25, 1, NONE}, {30, 0, 40, 3, 2}};
        for (int p = 0; p < 3; p++) {
            for (int what = 0; what < 5; what++) {
                is("person " + p + " " + what, x.person(p, what), told[p][what]);
            }
        }
        x.go(0, -1);
        x.go(1, 1);
        is("down", x.person(0, 1), -1);
        is("up", x.person(1, 1), 1);
    }

    private static void personRefused() {
        is("no tower", new LeanTower().person(0, 0), BAD);
        LeanTower x = Due.tower(BOY);
        for (int person : new int[] {LEAST, -1, 1, 7, GREATEST}) {
            is("person " + person, x.person(person, 0), BAD);
        }
        for (int what : new int[] {LEAST, -1, 5, GREATEST}) {
            is("what " + what, x.person(0, what), BAD);
        }
    }

    private static void leanTold() {
        LeanTower x = Due.tower("law 5 20;stone 20 2;stone 19 1;");
        int[] first = {-20, 19, 0, 0, 0};
        int[] then = {-22, 20, 1, -2, 1};
        for (int what = 0; what < 5; what++) {
            is("lean " + what, x.lean(what), first[what]);
        }
        x.year();
        for (int what = 0; what < 5; what++) {
            is("lean behind a year " + what, x.lean(what), then[what]);
        }
    }

    private static void leanRefused() {
        for (int what : new int[] {LEAST, -1, 0, 4, 5, GREATEST}) {
            is("no tower, what " + what, new LeanTower().lean(what), STATE);
        }
        for (int what : new int[] {LEAST, -1, 5, GREATEST}) {
            is("what " + what, Due.tower(BOY).lean(what), BAD);
        }
    }

    // ---- 16 to 19, 21, 22

    private static void worstTold() {
        LeanTower x = Due.tower("law 5 9;person pilgrim 10 2 99;");
        is("none", x.worst(0), 0);
        is("never", x.worst(1), NONE);
        x.go(0, 1);
        is("10", x.worst(0), 10);
        is("behind two", x.worst(1), 2);
    }

    private static void worstRefused() {
        for (int what : new int[] {LEAST, -1, 0, 1, 2, GREATEST}) {
            is("no tower, what " + what, new LeanTower().worst(what), STATE);
        }
        for (int what : new int[] {LEAST, -1, 2, GREATEST}) {
            is("what " + what, Due.tower(BOY).worst(what), BAD);
        }
    }

    private static void mostTold() {
        is("him", Due.tower(BOY).most(), 1);
        is("none", Due.tower(BOY + "stone 10 1;").most(), NONE);
        is("all seven", Due.tower("law 5 7;" + "person boy 2 1 99;".repeat(7)).most(), 127);
        is("six of seven, the least", Due.tower("law 5 6;" + "person boy 2 1 99;".repeat(7)).most(), 63);
    }

    private static void mostRefused() {
        is("no tower", new LeanTower().most(), STATE);
        LeanTower x = new LeanTower();
        Due.read(x, "law");
        is("no tower behind a fault", x.most(), STATE);
    }

    private static void twoTold() {
        LeanTower x = Due.tower("law 5 9;person pilgrim 3 1 99;person pilgrim 4 1 99;");
        is("one later", x.two(0, 1, 0), 1);
        is("worst by it", x.two(0, 1, 1), 4);
        is("the other way round", x.two(1, 0, 0), 1);
        is("nothing changes", x.person(0, 1) + x.person(1, 1), 0);
    }

    private static void twoRefused() {
        is("no tower", new LeanTower().two(0, 1, 0), BAD);
        LeanTower x = Due.tower("law 5 9;person boy 2 1 99;person boy 2 1 99;person boy 2 1 0;person boy 2 1 4;");
        is("alike", x.two(0, 0, 0), BAD);
        is("on step 0", x.two(0, 2, 0), BAD);
        is("on step 0, the first", x.two(2, 0, 0), BAD);
        is("on the highest", x.two(0, 3, 1), BAD);
        for (int person : new int[] {LEAST, -1, 4, 7, GREATEST}) {
            is("a " + person, x.two(person, 0, 0), BAD);
            is("b " + person, x.two(0, person, 0), BAD);
        }
        for (int what : new int[] {LEAST, -1, 2, GREATEST}) {
            is("what " + what, x.two(0, 1, what), BAD);
        }
        is("right", x.two(0, 1, 0), 1);
    }

    private static void stonesTold() {
        LeanTower x = Due.tower("law 5 9;stone 3 3;stone 4 3;stone 5 3;stone 6 3;");
        is("worst", x.stones(-1), 0);
        int[] sides = {0, 2, 2, 0};
        for (int k = 0; k < 4; k++) {
            is("stone " + k, x.stones(k), sides[k]);
        }
        is("nothing is hung", x.lean(1), -18);
    }

    private static void stonesRefused() {
        for (int k : new int[] {LEAST, -2, -1, 0, 4, GREATEST}) {
            is("no tower, k " + k, new LeanTower().stones(k), STATE);
        }
        LeanTower x = Due.tower("law 5 9;stone 3 3;");
        for (int k : new int[] {LEAST, -2, 1, 4, GREATEST}) {
            is("k " + k, x.stones(k), BAD);
        }
        is("no stones: no stone 0", Due.tower(BOY).stones(0), BAD);
        is("no stones: a WORST", Due.tower(BOY).stones(-1), 0);
    }

    private static void rescueTold() {
        LeanTower x = Due.tower("law 5 9;person boy 2 1 99;person boy 2 1 0;person boy 2 1 4;");
        is("the first", x.rescue(0), 1);
        is("the second", x.rescue(1), 2);
        is("not so many", x.rescue(2), NONE);
        is("not so many", x.rescue(GREATEST), NONE);
        is("no such order", Due.tower("law 5 9;person pilgrim 10 1 0;").rescue(0), NONE);
    }

    private static void rescueRefused() {
        for (int k : new int[] {LEAST, -1, 0, GREATEST}) {
            is("no tower, k " + k, new LeanTower().rescue(k), STATE);
        }
        for (int k : new int[] {LEAST, -1}) {
            is("k " + k, Due.tower(BOY).rescue(k), BAD);
        }
    }

    private static void fallTold() {
        is("never", Due.tower(BOY).fall(), NONE);
        is("now", Due.tower("law 5 9;stone 10 3;").fall(), 0);
        LeanTower x = Due.tower("law 5 11;stone 10 3;");
        is("in two years", x.fall(), 2);
        x.year();
        is("in one", x.fall(), 1);
        x.year();
        is("now", x.fall(), 0);
        is("nothing changes", x.lean(4), -2);
    }

    private static void fallRefused() {
        is("no tower", new LeanTower().fall(), STATE);
    }

    // ---- 20, 23

    private static void marksTold() {
        LeanTower x = Due.tower("law 4 9;" + "person pilgrim 1 1 99;".repeat(7));
        x.row(0, 0, 7);
        int[] sets = {1, 7, 21, 35, 35, 21, 7, 1};
        for (int east = 0; east <= 7; east++) {
            is("how many of " + east, x.marks(0, east, 0, -1), sets[east]);
            is("the least", x.marks(0, east, 0, 0), (1 << east) - 1);
            is("no more", x.marks(0, east, 0, sets[east]), NONE);
        }
        is("the last of one", x.marks(0, 1, 0, 6), 64);
        is("i far off", x.marks(0, 1, 0, GREATEST), NONE);
        is("none so", x.marks(0, 8, 0, -1), 0);
        is("none so, the first", x.marks(0, 8, 0, 0), NONE);
        for (int i = 0; i < 7; i++) {
            x.set(0, i, i == 6 ? 2 : i % 2 == 0 ? -1 : 3);
        }
        is("only the last one weighs", x.marks(0, -1, 0, -1), 64);
        is("the least with him", x.marks(0, -1, 0, 0), 64);
        is("edges of LEANS", x.marks(0, 999, -999, -1), 0);
        is("edges of LEANS", x.marks(0, -999, 999, 0), NONE);
        x.row(1, 2, 40);
        x.set(1, 7, -9);
        is("a longer row, its first seven", x.marks(1, 7, 0, 0), 127);
    }

    private static void marksRefused() {
        is("no tower", new LeanTower().marks(0, 0, 0, 0), STATE);
        is("no tower, nothing right", new LeanTower().marks(-1, 1000, 1000, -2), STATE);
        LeanTower x = Due.tower(BOY);
        for (int row : new int[] {LEAST, -1, 8, GREATEST}) {
            is("row " + row, x.marks(row, 0, 0, 0), BAD);
        }
        for (int lean : new int[] {LEAST, -1000, 1000, GREATEST}) {
            is("east " + lean, x.marks(0, lean, 0, 0), BAD);
            is("north " + lean, x.marks(0, 0, lean, 0), BAD);
        }
        for (int i : new int[] {LEAST, -2}) {
            is("i " + i, x.marks(0, 0, 0, i), BAD);
        }
        is("missing", x.marks(0, 0, 0, 0), NULL);
        x.row(0, 0, 0);
        is("no place for him", x.marks(0, 0, 0, 0), PLACE);
        x.row(0, 0, 1);
        is("just the place", x.marks(0, 0, 0, -1), 1);
        LeanTower y = Due.tower("law 4 9;" + "person boy 1 1 99;".repeat(7));
        y.row(0, 0, 6);
        is("no place for the seventh", y.marks(0, 0, 0, -1), PLACE);
    }

    private static void marksNoStep() {
        LeanTower x = Due.tower("law 5 9;person boy 2 1 99;person boy 2 1 99;");
        x.row(0, 2, 2);
        x.row(1, 2, 1);
        x.set(1, 0, 99);
        is("PLACE ahead of it", x.marks(1, 0, 0, 0), PLACE);
        for (int step : new int[] {LEAST, -2, 5, 99, GREATEST}) {
            x.set(0, 1, step);
            x.as(0, 5);
            is("step " + step, x.marks(0, 0, 0, -1), BAD);
            is("its status is passed over", x.status(), 3);
        }
        x.set(0, 1, -1);
        is("outside", x.marks(0, 0, 0, -1), 2);
        x.set(0, 1, 4);
        is("the highest", x.marks(0, 0, 0, -1), 2);
    }

    private static void bellsTold() {
        LeanTower x = new LeanTower();
        x.row(0, 2, 6);
        int[] nods = {9, 5, 1, 20, 20, 0};
        for (int i = 0; i < 6; i++) {
            x.set(0, i, nods[i]);
        }
        is("one", x.bells(0, 1, -1), 9);
        is("bell 0", x.bells(0, 1, 0), 0);
        is("not so many", x.bells(0, 1, 1), NONE);
        is("three: 5, -4, -3", x.bells(0, 3, -1), 5);
        int[] order = {1, 0, 2};
        for (int k = 0; k < 3; k++) {
            is("bell " + k, x.bells(0, 3, k), order[k]);
        }
        is("not so many", x.bells(0, 3, 3), NONE);
        is("k far off", x.bells(0, 3, GREATEST), NONE);
        is("five of six", x.bells(0, 5, 5), NONE);
    }

    private static void bellsRefused() {
        LeanTower x = new LeanTower();
        for (int row : new int[] {LEAST, -1, 8, GREATEST}) {
            is("row " + row, x.bells(row, 1, 0), BAD);
        }
        for (int n : new int[] {LEAST, -1, 0, 6, GREATEST}) {
            is("n " + n, x.bells(0, n, 0), BAD);
        }
        for (int k : new int[] {LEAST, -2}) {
            is("k " + k, x.bells(0, 1, k), BAD);
        }
        is("missing", x.bells(0, 1, 0), NULL);
        x.row(0, 0, 4);
        is("four of five", x.bells(0, 5, 0), PLACE);
        x.row(0, 0, 0);
        is("none of one", x.bells(0, 1, 9), PLACE);
    }

    private static void bellsNoNod() {
        LeanTower x = new LeanTower();
        x.row(0, 2, 5);
        for (int i = 0; i < 5; i++) {
            x.set(0, i, 1);
        }
        for (int nod : new int[] {LEAST, -1, 0, 21, GREATEST}) {
            x.set(0, 4, nod);
            x.drop(7);
            is("nod " + nod, x.bells(0, 5, -1), BAD);
            is("its status is passed over", x.status(), 1);
            is("nod " + nod + ", not so many", x.bells(0, 5, 5), BAD);
            is("nod " + nod + " behind those", x.bells(0, 4, -1), 1);
        }
        x.row(1, 0, 4);
        is("PLACE ahead of it", x.bells(1, 5, -1), PLACE);
        x.set(0, 4, 20);
        is("20 is one: 1, 0, 1, 0, 20", x.bells(0, 5, -1), 19);
    }

    // ---- 24 to 31

    private static void imageKept() {
        LeanTower x = Due.tower(BOY);
        is("0", x.image(0), 1);
        x.halves(1);
        is("1", x.image(1), 1);
        is("no act", x.count(4), 1);
        x.halves(1);
        is("0 in place of 0", x.image(0), 1);
        x.restore(1);
        is("minute of 1", x.count(3), 1);
        x.restore(0);
        is("minute of 0", x.count(3), 2);
    }

    private static void imageRefused() {
        LeanTower x = new LeanTower();
        is("no tower", x.image(0), STATE);
        is("no tower", x.image(1), STATE);
        for (int k : new int[] {LEAST, -1, 2, GREATEST}) {
            is("no tower, k " + k, x.image(k), BAD);
            is("k " + k, Due.tower(BOY).image(k), BAD);
        }
    }

    private static void restored() {
        LeanTower x = Due.tower("law 9 9;person boy 2 1 99;person monk 3 2 4;stone 20 0;");
        x.go(0, 1);
        x.halves(3);
        x.year();
        x.image(1);
        x.hang(0, 2);
        x.halves(64);
        Due.read(x, "law 4 9;");
        is("restored", x.restore(1), 1);
        is("people", x.count(1), 2);
        is("minute", x.count(3), 3);
        is("step", x.person(0, 0), 2);
        is("way", x.person(0, 1), 1);
        is("stone and crept", x.lean(0), 20 - 1 + 3 + x.lean(3));
        is("the law", x.lean(2), 1);
        is("steps", x.person(1, 4), 0);
        is("no act", x.count(4), 0);
        is("no act", x.undo(), STATE);
        x.halves(1);
        is("once more", x.restore(1), 1);
        is("as it kept it", x.count(3), 3);
    }

    private static void restoreRefused() {
        LeanTower x = Due.tower(BOY);
        is("none was kept", x.restore(0), STATE);
        x.image(0);
        is("of this one none", x.restore(1), STATE);
        for (int k : new int[] {LEAST, -1, 2, GREATEST}) {
            is("k " + k, x.restore(k), BAD);
            is("none was kept, k " + k, new LeanTower().restore(k), BAD);
        }
        x.year();
        is("refused: acts stay", x.restore(1), STATE);
        is("one", x.count(4), 1);
    }

    private static void kindTold() {
        LeanTower x = Due.tower("law 5 9;person pilgrim 1 1 0;person widow 1 1 0;person boy 1 1 0;person monk 1 1 0;"
                + "person bishop 1 1 0;");
        for (int p = 0; p < 5; p++) {
            is("kind of " + p, x.kind(p), p + 1);
        }
    }

    private static void kindRefused() {
        is("no tower", new LeanTower().kind(0), BAD);
        for (int person : new int[] {LEAST, -1, 1, 7, GREATEST}) {
            is("person " + person, Due.tower(BOY).kind(person), BAD);
        }
    }

    private static void asTold() {
        LeanTower x = Due.tower("law 5 9;" + "person boy 2 1 99;".repeat(6) + "person bishop 2 1 99;");
        is("a person", x.as(6, 0), 6);
        is("a monk", x.as(6, 4), 6);
        is("a bishop", x.as(6, 5), 6);
        is("a boy", x.as(0, 3), 0);
        is("a pilgrim", x.as(0, 1), 0);
    }

    private static void asRefused() {
        is("no tower", new LeanTower().as(0, 0), BAD);
        LeanTower x = Due.tower(BOY);
        for (int person : new int[] {LEAST, -1, 1, 7, GREATEST}) {
            is("person " + person, x.as(person, 0), BAD);
        }
        for (int kind : new int[] {LEAST, -1, 6, GREATEST}) {
            is("kind " + kind, x.as(0, kind), BAD);
        }
        is("no widow", x.as(0, 2), KIND);
        is("no monk", x.as(0, 4), KIND);
        is("no bishop", x.as(0, 5), KIND);
        is("no bishop is a monk", Due.tower("law 5 9;person monk 1 1 0;").as(0, 5), KIND);
    }

    private static void askTold() {
        LeanTower x = Due.tower("law 5 9;person boy 1 1 99;");
        is("size", x.ask(0, 0), -2);
        is("mark", x.ask(0, 1), 2);
    }

    private static void askRefused() {
        is("no tower", new LeanTower().ask(0, 0), BAD);
        LeanTower x = Due.tower(BOY);
        x.ask(0, 1);
        for (int person : new int[] {LEAST, -1, 1, 7, GREATEST}) {
            is("person " + person, x.ask(person, 0), BAD);
        }
        for (int what : new int[] {LEAST, -1, 2, GREATEST}) {
            is("what " + what, x.ask(0, what), BAD);
        }
        is("the trace stays", x.trace(0), 24);
    }

    private static void traceEmptied() {
        LeanTower x = Due.tower("law 5 9;person boy 1 1 99;person monk 1 1 99;");
        x.ask(0, 0);
        is("six", x.trace(5), 20);
        x.ask(1, 0);
        is("two", x.trace(1), 10);
        for (int i = 2; i < 16; i++) {
            is("no more", x.trace(i), NONE);
        }
    }

    private static void traceTold() {
        LeanTower x = Due.tower(BOY);
        is("none yet", x.trace(0), NONE);
        x.ask(0, 1);
        is("24", x.trace(0), 24);
        is("20", x.trace(2), 20);
        for (int i : new int[] {LEAST, -1, 3, 15, 16, GREATEST}) {
            is("trace " + i, x.trace(i), NONE);
        }
        Due.read(x, "law 4 1;");
        is("a text leaves it", x.trace(0), 24);
    }

    private static void countTold() {
        LeanTower x = Due.tower("law 4 99;person boy 1 1 3;person boy 1 1 0;person boy 1 1 99;stone 1 0;");
        for (int row = 0; row < 8; row++) {
            x.row(row, 0, 0);
        }
        x.halves(64);
        x.year();
        x.feed(0, 8);
        int[] told = {8, 3, 1, 64, 2, 2, 8};
        for (int what = 0; what <= 6; what++) {
            is("count " + what, x.count(what), told[what]);
        }
        x.drop(0);
        is("seven rows", x.count(0), 7);
    }

    private static void countRefused() {
        for (int what : new int[] {LEAST, -1, 7, GREATEST}) {
            is("no tower, what " + what, new LeanTower().count(what), BAD);
            is("what " + what, Due.tower(BOY).count(what), BAD);
        }
    }

    private static void statusOfLatest() {
        LeanTower x = Due.tower(BOY);
        x.row(0, 0, -1);
        is("SIZE", x.status(), 4);
        x.row(0, 3, 1);
        x.set(8, 0, 0);
        x.copy(0, 0, 8, 0, 0);
        x.drop(-1);
        x.marks(0, 1000, 0, 0);
        x.bells(0, 0, 0);
        x.as(0, 6);
        is("BAD is passed over", x.status(), 4);
        x.feed(0, 9);
        x.feed(0, 1);
        x.tower();
        x.go(0, 1);
        x.halves(1);
        x.undo();
        x.kind(0);
        x.ask(0, 0);
        x.image(0);
        is("calls without a ROW are passed over", x.status(), 4);
        is("KIND", x.as(0, 5), KIND);
        is("3", x.status(), 3);
        is("marks", x.marks(0, 0, 0, 0), NULL);
        is("1", x.status(), 1);
        x.row(0, 0, 0);
        is("marks", x.marks(0, 0, 0, 0), PLACE);
        is("2", x.status(), 2);
        x.row(1, 1, 0);
        is("copy", x.copy(0, 0, 1, 0, 0), STORE);
        is("5", x.status(), 5);
        is("bells", x.bells(2, 1, 0), NULL);
        is("1", x.status(), 1);
        is("bells", x.bells(1, 1, 0), PLACE);
        is("2", x.status(), 2);
        LeanTower none = new LeanTower();
        none.drop(0);
        is("STATE", none.marks(0, 0, 0, 0), STATE);
        is("STATE is passed over", none.status(), 1);
    }

    private static void statusNone() {
        LeanTower x = Due.tower(BOY);
        is("there was none", x.status(), 0);
        Runnable[] clean = {() -> x.row(0, 0, 1), () -> x.set(0, 0, 4), () -> x.copy(0, 0, 0, 0, 1),
            () -> x.bells(0, 1, 0), () -> x.bells(0, 1, 1), () -> x.marks(0, 0, 0, -1), () -> x.marks(0, 9, 0, 0),
            () -> x.as(0, 0), () -> x.drop(0)};
        for (int i = 0; i < clean.length; i++) {
            x.as(0, 5);
            is("3", x.status(), 3);
            clean[i].run();
            is("it had none " + i, x.status(), 0);
        }
    }
}
