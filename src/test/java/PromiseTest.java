/** For each promise of the document: ordinary inputs, the edges that it names, wrong inputs. */
public final class PromiseTest {
    private static final int NONE = -1000000, BAD = -1000001, STATE = -1000002, FULL = -1000003;
    private static final int NULL = -1000011, PLACE = -1000012, KIND = -1000013, SIZE = -1000014, STORE = -1000015;
    private static final int FAULT = -1000100;

    private static final String FIVE = "law 8 9;person pilgrim 5 1 99;person monk 4 2 99;person widow 3 1 0;"
            + "person bishop 2 3 5;person boy 7 1 7;stone 4 2;stone 1 1;";

    private static final Due due = new Due("PromiseTest");

    public static void main(String[] args) {
        constants();
        newObject();
        row();
        set();
        copy();
        drop();
        feed();
        towerReads();
        towerFaults();
        towerReplaces();
        go();
        hang();
        halves();
        halvesOfMonks();
        halvesAtTheEnds();
        year();
        undo();
        undoForgets();
        person();
        lean();
        worst();
        most();
        two();
        stones();
        marks();
        rescue();
        fall();
        bells();
        images();
        kinds();
        asks();
        count();
        status();
        due.end();
    }

    private static void is(String call, int got, int want) {
        due.is(call, got, want);
    }

    private static void constants() {
        is("NONE", LeanTower.NONE, NONE);
        is("BAD", LeanTower.BAD, BAD);
        is("STATE", LeanTower.STATE, STATE);
        is("FULL", LeanTower.FULL, FULL);
    }

    private static void newObject() {
        LeanTower x = new LeanTower();
        for (int what = 0; what <= 6; what++) {
            is("new count " + what, x.count(what), 0);
        }
        is("new status", x.status(), 0);
        is("new fault", x.fault(), 0);
        is("new trace", x.trace(0), NONE);
        is("new go", x.go(0, 1), BAD);
        is("new hang", x.hang(0, 0), BAD);
        is("new person", x.person(0, 0), BAD);
        is("new kind", x.kind(0), BAD);
        is("new as", x.as(0, 0), BAD);
        is("new ask", x.ask(0, 0), BAD);
        is("new two", x.two(0, 1, 0), BAD);
        is("new halves", x.halves(0), STATE);
        is("new year", x.year(), STATE);
        is("new undo", x.undo(), STATE);
        is("new lean", x.lean(9), STATE);
        is("new worst", x.worst(9), STATE);
        is("new most", x.most(), STATE);
        is("new stones", x.stones(9), STATE);
        is("new marks", x.marks(9, 0, 0, 0), STATE);
        is("new rescue", x.rescue(-1), STATE);
        is("new fall", x.fall(), STATE);
        is("new image", x.image(1), STATE);
        is("new restore", x.restore(1), STATE);
        is("new image bad", x.image(-1), BAD);
        is("new restore bad", x.restore(-1), BAD);
    }

    private static void row() {
        LeanTower x = new LeanTower();
        is("row", x.row(0, 0, 40), 40);
        is("row of none", x.row(7, 2, 0), 0);
        is("rows", x.count(0), 2);
        is("row below", x.row(-1, 0, 1), BAD);
        is("row above", x.row(8, 0, 1), BAD);
        is("lane below", x.row(0, -1, 1), BAD);
        is("lane above", x.row(0, 3, 1), BAD);
        is("n above", x.row(0, 0, 41), BAD);
        is("BAD ahead of SIZE", x.row(0, 3, -1), BAD);
        is("SIZE", x.row(0, 1, Integer.MIN_VALUE), SIZE);
        is("what is found changes nothing", x.set(0, 39, 5), 5);
        is("row anew", x.row(0, 1, 2), 2);
        is("zeros anew", x.copy(0, 0, 0, 0, 2), 2);
        is("set", x.set(0, 1, 9), 9);
        is("row anew", x.row(0, 1, 2), 2);
        is("bells on zeros", x.bells(0, 2, -1), BAD);
    }

    private static void set() {
        LeanTower x = new LeanTower();
        x.row(0, 0, 3);
        x.row(1, 1, 3);
        x.row(2, 2, 3);
        is("byte", x.set(0, 0, 127), 127);
        is("byte wraps", x.set(0, 1, 128), -128);
        is("byte low bits", x.set(0, 2, 0x12345), 0x45);
        is("short", x.set(1, 0, 32767), 32767);
        is("short wraps", x.set(1, 1, 32768), -32768);
        is("short -1", x.set(1, 2, 0xFFFFF), -1);
        is("int", x.set(2, 0, Integer.MIN_VALUE), Integer.MIN_VALUE);
        is("set row", x.set(8, 0, 0), BAD);
        is("set row below", x.set(-1, 0, 0), BAD);
        is("set missing", x.set(3, 9, 0), NULL);
        is("set place", x.set(0, 3, 0), PLACE);
        is("set place below", x.set(0, -1, 0), PLACE);
    }

    private static void copy() {
        LeanTower x = new LeanTower();
        x.row(0, 2, 5);
        x.row(1, 2, 3);
        x.row(2, 0, 3);
        for (int i = 0; i < 5; i++) {
            x.set(0, i, i + 1);
        }
        is("copy forward over itself", x.copy(0, 0, 0, 1, 4), 4);
        is("items moved", bellOrder(x, 0), 11234);
        is("copy back over itself", x.copy(0, 1, 0, 0, 4), 4);
        is("items moved back", bellOrder(x, 0), 12344);
        is("copy to the end", x.copy(0, 2, 1, 0, 3), 3);
        is("copy nothing at ends", x.copy(0, 5, 1, 3, 0), 0);
        is("copy beyond a", x.copy(0, 3, 1, 0, 3), PLACE);
        is("copy beyond b", x.copy(0, 0, 1, 1, 3), PLACE);
        is("copy i below", x.copy(0, -1, 1, 0, 1), PLACE);
        is("copy j below", x.copy(0, 0, 1, -1, 1), PLACE);
        is("copy n below", x.copy(0, 0, 1, 0, -1), PLACE);
        is("copy i beyond", x.copy(0, 6, 1, 0, 0), PLACE);
        is("copy far", x.copy(0, Integer.MAX_VALUE, 1, 0, Integer.MAX_VALUE), PLACE);
        is("copy n far", x.copy(0, 1, 1, 1, Integer.MAX_VALUE), PLACE);
        is("STORE ahead of PLACE", x.copy(0, 9, 2, 9, -9), STORE);
        is("NULL ahead of STORE", x.copy(3, 9, 2, 9, -9), NULL);
        is("NULL of b", x.copy(0, 9, 3, 9, -9), NULL);
        is("copy BAD a", x.copy(8, 0, 3, 0, 0), BAD);
        is("copy BAD b", x.copy(3, 0, -1, 0, 0), BAD);
    }

    /** The first five items of a row of figures, by copies to a row of one that is set back. */
    private static int bellOrder(LeanTower x, int row) {
        int figures = 0;
        for (int i = 0; i < 5; i++) {
            x.row(6, 2, 1);
            x.copy(row, i, 6, 0, 1);
            figures = figures * 10 + x.bells(6, 1, -1);
        }
        return figures;
    }

    private static void drop() {
        LeanTower x = new LeanTower();
        x.row(4, 1, 17);
        is("drop", x.drop(4), 17);
        is("drop again", x.drop(4), NULL);
        is("drop counts", x.count(0), 0);
        is("drop bad", x.drop(8), BAD);
        is("drop bad below", x.drop(-1), BAD);
        is("set dropped", x.set(4, 0, 0), NULL);
    }

    private static void feed() {
        LeanTower x = new LeanTower();
        is("feed none", x.feed(0, 0), BAD);
        is("feed nine", x.feed(0, 9), BAD);
        is("feed below", x.feed(0, -1), BAD);
        is("feed low bytes", x.feed(0x7F7F7F6C6177L, 3), 3);
        is("feed more", Due.feed(x, " 4 1;"), 8);
        is("highest first", x.tower(), 0);
        for (int i = 1; i <= 49; i++) {
            is("feed blanks", x.feed(0x2020202020202020L, 8), 8 * i);
        }
        is("feed to 399", x.feed(0x20202020202020L, 7), 399);
        is("feed full", x.feed(0, 2), FULL);
        is("none came", x.count(6), 399);
        is("feed the last", x.feed(' ', 1), 400);
        is("feed one more", x.feed(' ', 1), FULL);
        is("BAD ahead of FULL", x.feed(' ', 9), BAD);
        is("the end is how many bytes there are", x.tower(), FAULT - 400);
        is("tape empty", x.count(6), 0);
    }

    private static void towerReads() {
        is("five", Due.read(new LeanTower(), FIVE), 5);
        is("least law", Due.read(new LeanTower(), "law 4 1;"), 0);
        is("greatest law", Due.read(new LeanTower(), "law 32 99;"), 0);
        is("blanks", Due.read(new LeanTower(), "\n law\n4 1 ; \n"), 0);
        is("no blanks", Due.read(new LeanTower(), "law4 1;person boy20 4 3;stone20 3;"), 1);
        is("noughts ahead", Due.read(new LeanTower(), "law 004 099;"), 0);
        LeanTower x = Due.tower("law 32 1;" + "person boy 1 1 31;".repeat(7) + "stone 1 0;".repeat(4));
        is("all people", x.count(1), 7);
        is("all stones", x.count(2), 4);
        is("highest step", x.person(6, 0), 31);
    }

    private static void fault(String text, int place, int number) {
        LeanTower x = Due.tower(FIVE);
        x.go(0, 1);
        is("tower of " + text, Due.read(x, text), FAULT - place);
        is("fault of " + text, x.fault(), number);
        is("all stays of " + text, x.count(1) * 100 + x.count(4) * 10 + x.person(0, 1), 511);
        is("tape empty of " + text, x.count(6), 0);
    }

    private static void towerFaults() {
        String seven = "law 4 1;" + "person boy 1 1 99;".repeat(7);
        fault("", 0, 1);
        fault("   ", 3, 1);
        fault("law 4 1;\t", 8, 1);
        fault("law 4 1;" + (char) 225, 8, 1);
        fault("Law 4 1;", 0, 1);
        fault("lawn 4 1;", 0, 1);
        fault("lawz 4 1;", 0, 1);
        fault("paw 4 1;", 0, 1);
        fault("law` 4 1;", 3, 1);
        fault("law{ 4 1;", 3, 1);
        fault("law 4/ 1;", 5, 1);
        fault("law 4: 1;", 5, 1);
        fault("4 1;", 0, 1);
        fault("law 3 1;", 4, 2);
        fault("law 33 1;", 4, 2);
        fault("law 0004 1;", 4, 1);
        fault("law 4294967300 1;", 4, 1);
        fault("law -4 1;", 4, 1);
        fault("law x 1;", 4, 1);
        fault("law 4;", 5, 1);
        fault("law 4 0;", 6, 2);
        fault("law 4 100;", 6, 2);
        fault("law 4 1 1;", 8, 1);
        fault("law 4 1 ", 8, 1);
        fault("law 4 1;law 4 1;", 8, 1);
        fault("law 4 1;;", 8, 1);
        fault("law 4 1;people", 8, 1);
        fault("law 4 1;person person 1 1 0;", 15, 1);
        fault("law 4 1;person 1 1 0;", 15, 1);
        fault("law 4 1;person boy 21 9 9;", 19, 2);
        fault("law 4 1;person boy 0 1 0;", 19, 2);
        fault("law 4 1;person boy 1 0 0;", 21, 2);
        fault("law 4 1;person boy 1 5 0;", 21, 2);
        fault("law 4 1;person boy 1 1 4;", 23, 2);
        fault("law 4 1;person boy 1 1 98;", 23, 2);
        fault("law 4 1;person boy 1 1;", 22, 1);
        fault("law 4 1;stone 1 4;", 16, 2);
        fault("law 4 1;stone 0 1;", 14, 2);
        fault("law 4 1;stone 21 1;", 14, 2);
        fault("law 4 1;stone 1 1;person boy 1 1 0;", 18, 1);
        fault(seven + "person", seven.length(), 3);
        fault(seven + "stone 1 1;person", seven.length() + 10, 1);
        fault("law 4 1;" + "stone 1 1;".repeat(4) + " stone", 49, 3);
        LeanTower x = Due.tower("law 4 1;");
        Due.read(x, "law 3");
        Due.read(x, "law 4 1;");
        is("the latest fault stays", x.fault(), 2);
    }

    private static void towerReplaces() {
        LeanTower x = Due.tower(FIVE);
        x.go(0, 1);
        x.hang(0, 0);
        x.halves(3);
        x.year();
        is("read again", Due.read(x, FIVE), 5);
        is("minute", x.count(3), 0);
        is("acts", x.count(4), 0);
        is("undo", x.undo(), STATE);
        is("stands", x.person(0, 1), 0);
        is("outside", x.person(0, 0), -1);
        is("not crept", x.lean(3) + x.lean(4), 0);
        is("stone as told", x.hang(0, 2), 2);
    }

    private static void go() {
        LeanTower x = Due.tower(FIVE);
        is("go up", x.go(0, 1), 0);
        is("go down", x.go(0, -1), 1);
        is("stand", x.go(0, 0), -1);
        is("three acts", x.count(4), 3);
        is("the same way is no act", x.go(0, 0) + x.count(4), 3);
        is("go way", x.go(0, 2), BAD);
        is("go way below", x.go(0, -2), BAD);
        is("go nobody", x.go(5, 0), BAD);
        is("go nobody below", x.go(-1, 0), BAD);
        is("refused is no act", x.count(4), 3);
    }

    private static void hang() {
        LeanTower x = Due.tower(FIVE);
        is("hang", x.hang(0, 3), 2);
        is("hung there", x.hang(0, 0), 3);
        is("the same side is no act", x.hang(0, 0) + x.count(4), 2);
        is("hang side", x.hang(0, 4), BAD);
        is("hang side below", x.hang(0, -1), BAD);
        is("hang stone", x.hang(2, 0), BAD);
        is("hang stone below", x.hang(-1, 0), BAD);
    }

    private static void halves() {
        LeanTower x = Due.tower("law 6 9;person pilgrim 10 2 99;person bishop 1 3 5;");
        is("halves 0", x.halves(0), BAD);
        is("halves 65", x.halves(65), BAD);
        is("nobody goes", x.halves(64), NONE);
        is("minute", x.count(3), 64);
        x.go(0, 1);
        is("beyond behind the second", x.halves(3), 2);
        is("one step", x.person(0, 0), 0);
        is("beyond already: behind the first", x.halves(1), 1);
        is("by the minute's rest", x.person(0, 0), 1);
        is("to the highest", x.halves(8), 1);
        is("there", x.person(0, 0), 5);
        is("stands", x.person(0, 1), 0);
        x.go(1, -1);
        is("in the middle, then down", x.halves(2), NONE);
        is("one step by pace 3", x.person(1, 0), 4);
        is("bishops go one step", x.count(3), 78);
        is("a whole act", x.undo(), 6);
        is("minute back", x.count(3), 76);
        for (int i = 0; i < 155; i++) {
            x.halves(64);
        }
        is("late", x.count(3), 76 + 155 * 64);
        is("full", x.halves(4), FULL);
        is("BAD ahead of FULL", x.halves(65), BAD);
        is("to the last minute", x.halves(3), NONE);
        is("minute", x.count(3), 9999);
        is("full for good", x.halves(1), FULL);
        is("foretold beyond it", x.worst(0), 0);
    }

    private static void halvesOfMonks() {
        LeanTower x = Due.tower("law 5 99;person monk 1 1 99;person monk 1 1 4;person monk 1 3 0;");
        x.go(0, 1);
        x.go(1, -1);
        x.go(2, 1);
        int[][] steps = {{1, 2, 0}, {3, 0, 0}, {4, -1, 2}, {4, -1, 2}};
        for (int h = 0; h < steps.length; h++) {
            is("monks half " + h, x.halves(1), NONE);
            for (int p = 0; p < 3; p++) {
                is("monk " + p + " behind half " + h, x.person(p, 0), steps[h][p]);
            }
        }
        is("stands above", x.person(0, 1), 0);
        is("stands outside", x.person(1, 1), 0);
        is("goes on", x.person(2, 1), 1);
        is("two more to the highest", x.halves(2) + x.person(2, 0), NONE + 4);
        is("stands there", x.person(2, 1), 0);
    }

    private static void halvesAtTheEnds() {
        LeanTower x = Due.tower("law 4 99;person boy 1 2 3;person boy 1 2 99;");
        x.go(0, 1);
        x.go(1, -1);
        x.halves(1);
        is("up on the highest, until his pace", x.person(0, 1), 1);
        is("down outside, until his pace", x.person(1, 1), -1);
        x.halves(1);
        is("stands on the highest", x.person(0, 1) * 10 + x.person(0, 0), 3);
        is("stands outside", x.person(1, 1) * 10 + x.person(1, 0), -1);
    }

    private static void year() {
        LeanTower x = Due.tower("law 8 99;stone 19 2;stone 20 1;stone 9 1;");
        is("year", x.year(), 1);
        is("east cut towards 0", x.lean(3), -1);
        is("north", x.lean(4), 2);
        is("leans", x.lean(0) * 100 + x.lean(1), -2000 + 31);
        is("year", x.year(), 1);
        is("east more", x.lean(3), -3);
        is("north more", x.lean(4), 5);
        is("undo a year", x.undo(), 1);
        is("crept back", x.lean(3) * 10 + x.lean(4), -8);
        LeanTower y = Due.tower("law 8 99;stone 20 2;stone 20 2;");
        int years = 0;
        while (y.lean(3) >= -9999 && years < 200) {
            is("year by year", y.year(), 1);
            years++;
        }
        is("it crept beyond", y.lean(3) < -9999 ? 1 : 0, 1);
        is("year full", y.year(), FULL);
        y.undo();
        is("not beyond, a year more", y.year(), 1);
        is("full again", y.year(), FULL);
        for (int side = 0; side < 4; side++) {
            int sign = side < 2 ? 1 : -1;
            LeanTower v = creptFar(side, "law 8 99;stone 10 0;stone 10 0;stone 10 0;", 38, 41);
            is("crept just 9999", v.lean(3 + side % 2), sign * 9999);
            is("a year more", v.year(), 1);
            LeanTower w = creptFar(side, "law 8 99;stone 13 0;stone 10 0;stone 11 0;", 47, 28);
            is("crept 10000", w.lean(3 + side % 2), sign * 10000);
            is("full from there", w.year(), FULL);
        }
    }

    /** Years with its first stone on a side, the others even aside; then years with these against it. */
    private static LeanTower creptFar(int side, String text, int early, int late) {
        LeanTower x = Due.tower(text);
        x.hang(0, side);
        x.hang(1, (side + 1) % 4);
        x.hang(2, (side + 3) % 4);
        for (int i = 0; i < early; i++) {
            x.year();
        }
        x.hang(0, (side + 1) % 4);
        x.hang(1, (side + 2) % 4);
        x.hang(2, (side + 2) % 4);
        for (int i = 0; i < late; i++) {
            x.year();
        }
        return x;
    }

    private static void undo() {
        LeanTower x = Due.tower(FIVE);
        is("nothing to undo", x.undo(), STATE);
        x.go(0, 1);
        x.halves(5);
        x.hang(1, 3);
        x.year();
        int[] leans = {x.lean(0), x.lean(1)};
        is("undo year", x.undo(), 3);
        is("crept", x.lean(3) * 100 + x.lean(4), 0);
        is("undo hang", x.undo(), 2);
        is("stone back", x.hang(1, 1), 1);
        is("undo halves", x.undo(), 1);
        is("minute", x.count(3), 0);
        is("where he was", x.person(0, 0), -1);
        is("how he went", x.person(0, 1), 1);
        is("undo go", x.undo(), 0);
        is("he stands", x.person(0, 1), 0);
        is("no more", x.undo(), STATE);
        x.go(0, 1);
        x.halves(5);
        x.hang(1, 3);
        x.year();
        is("the same again east", x.lean(0), leans[0]);
        is("the same again north", x.lean(1), leans[1]);
    }

    private static void undoForgets() {
        LeanTower x = Due.tower("law 8 99;person boy 1 1 99;");
        for (int i = 1; i <= 30; i++) {
            x.halves(i);
            is("acts kept", x.count(4), Math.min(i, 24));
        }
        for (int i = 23; i >= 0; i--) {
            is("undo", x.undo(), i);
        }
        is("forgotten", x.undo(), STATE);
        is("minute of the first six", x.count(3), 21);
    }

    private static void person() {
        LeanTower x = Due.tower(FIVE);
        int[][] told = {{-1, 0, 5, 1, NONE}, {-1, 0, 4, 2, NONE}, {0, 0, 6, 1, 0}, {5, 0, 7, 3, 1}, {7, 0, 3, 1, NONE}};
        for (int p = 0; p < 5; p++) {
            for (int what = 0; what < 5; what++) {
                is("person " + p + " " + what, x.person(p, what), told[p][what]);
            }
        }
        is("person what", x.person(0, 5), BAD);
        is("person what below", x.person(0, -1), BAD);
        is("person nobody", x.person(5, 0), BAD);
        is("person nobody below", x.person(-1, 0), BAD);
        is("a boy of 1", Due.tower("law 4 1;person boy 1 1 0;").person(0, 2), 0);
        is("south", Due.tower("law 9 1;person boy 1 1 7;").person(0, 4), 3);
    }

    private static void lean() {
        LeanTower x = Due.tower("law 9 10;person pilgrim 3 1 0;person pilgrim 4 1 5;person pilgrim 5 1 2;"
                + "person pilgrim 6 1 7;person pilgrim 20 1 8;person widow 20 1 99;stone 2 0;stone 7 3;");
        is("east", x.lean(0), 3 + 2 - 5);
        is("north", x.lean(1), 4 - 6 - 7);
        is("within", x.lean(2), 0);
        is("crept", x.lean(3) + x.lean(4), 0);
        is("lean what", x.lean(5), BAD);
        is("lean what below", x.lean(-1), BAD);
        is("just the law", Due.tower("law 9 10;stone 10 2;").lean(2), 0);
        is("beyond west", Due.tower("law 9 10;stone 11 2;").lean(2), 1);
        is("beyond south", Due.tower("law 9 10;stone 11 3;").lean(2), 1);
    }

    private static void worst() {
        LeanTower x = Due.tower("law 12 10;person pilgrim 11 3 99;person boy 19 1 4;");
        is("as all stand", x.worst(0), 9);
        is("never", x.worst(1), NONE);
        x.go(0, 1);
        is("he comes east on top of the boy", x.worst(0), 20);
        is("behind three", x.worst(1), 3);
        is("nothing changed", x.count(3) + x.person(0, 0), -1);
        x.halves(2);
        is("behind one", x.worst(1), 1);
        x.halves(1);
        is("now", x.worst(1), 0);
        is("worst what", x.worst(2), BAD);
        is("worst what below", x.worst(-1), BAD);
        LeanTower y = Due.tower("law 32 5;person pilgrim 6 4 99;");
        y.go(0, 1);
        is("steps by 4 halves", y.worst(1), 4);
        LeanTower z = Due.tower("law 32 9;person pilgrim 6 4 17;stone 9 3;");
        is("he lightens the stone", z.worst(0), 3);
        z.go(0, -1);
        is("16 steps down in 64 halves", z.worst(0), 15);
        is("two steps down he's south", z.worst(1), 8);
        is("the last half counts", bothGoDown(15).worst(1), 64);
        is("the last half counts", bothGoDown(15).worst(0), 10);
        is("none behind it", bothGoDown(16).worst(1), NONE);
        is("none behind it", bothGoDown(16).worst(0), 1);
        LeanTower t = bothGoDown(16);
        t.halves(3);
        is("the 65th is none", t.worst(1), NONE);
        is("the 65th is none", t.worst(0), 1);
        is("the 65th is none for most", t.most(), 28);
        is("the 65th is none for stones", t.stones(-1), 1);
        is("the 65th is none for two", t.two(3, 4, 0), 1);
        is("the last half counts for most", bothGoDown(15).most(), NONE);
        is("none behind it for most", bothGoDown(16).most(), 28);
        is("the last half counts for stones", bothGoDown(15).stones(-1), 9);
        is("none behind it for stones", bothGoDown(16).stones(-1), 1);
        is("the last half counts for two", bothGoDown(15).two(2, 3, 1), 10);
        is("none behind it for two", bothGoDown(16).two(2, 3, 1), 5);
        LeanTower v = Due.tower("law 32 9;person pilgrim 1 4 0;person pilgrim 9 4 0;person pilgrim 1 4 16;");
        v.go(2, -1);
        is("now counts", v.worst(1), 0);
        LeanTower u = Due.tower("law 32 9;person pilgrim 10 4 99;person monk 10 1 99;");
        u.halves(3);
        u.go(0, 1);
        is("by the minute that is", u.worst(1), 1);
    }

    /** Two who hold each other upright, until the lower one is outside, a step in four halves. */
    private static LeanTower bothGoDown(int step) {
        LeanTower x = Due.tower("law 32 9;person pilgrim 10 4 " + step + ";person pilgrim 10 4 " + (step + 2)
                + ";person boy 1 1 99;person pilgrim 4 1 99;person pilgrim 4 1 99;stone 1 0;");
        x.go(0, -1);
        x.go(1, -1);
        return x;
    }

    private static void most() {
        LeanTower x = Due.tower("law 12 10;person pilgrim 10 1 99;person pilgrim 10 1 99;person pilgrim 10 2 99;"
                + "person boy 9 1 99;");
        is("the least of several", x.most(), 1);
        x.go(0, 1);
        x.halves(2);
        is("two of them", x.most(), 6);
        is("nothing changed", x.count(3), 2);
        is("nobody outside", Due.tower("law 4 5;person boy 2 1 0;").most(), 0);
        is("no people", Due.tower("law 4 5;").most(), 0);
        is("not even nobody", Due.tower("law 4 5;stone 6 0;").most(), NONE);
        is("none may", Due.tower("law 4 5;person boy 2 1 0;person widow 3 1 99;").most(), 0);
        LeanTower y = Due.tower("law 4 5;person pilgrim 3 1 99;person pilgrim 2 1 99;person pilgrim 3 1 99;");
        is("first and second", y.most(), 3);
        y.go(2, 1);
        is("one who goes up anyway counts", y.most(), 6);
        LeanTower z = Due.tower("law 4 5;person pilgrim 6 1 99;person boy 1 1 99;");
        z.go(0, 1);
        is("the others as they go", z.most(), NONE);
    }

    private static void two() {
        LeanTower x = Due.tower("law 12 10;person pilgrim 10 1 99;person pilgrim 10 1 99;person pilgrim 10 2 99;"
                + "person boy 9 1 99;person boy 9 1 0;");
        is("d", x.two(2, 1, 0), 0);
        is("worst by it", x.two(2, 1, 1), 20);
        is("alike", x.two(1, 1, 0), BAD);
        is("not outside", x.two(1, 4, 0), BAD);
        is("not outside first", x.two(4, 1, 0), BAD);
        is("nobody", x.two(0, 5, 0), BAD);
        is("nobody below", x.two(-1, 0, 0), BAD);
        is("what", x.two(0, 1, 2), BAD);
        is("what below", x.two(0, 1, -1), BAD);
        LeanTower y = Due.tower("law 12 10;person pilgrim 10 1 99;person pilgrim 10 1 99;");
        is("one later", y.two(0, 1, 0), 1);
        is("ten", y.two(0, 1, 1), 10);
        y.go(1, 1);
        is("the second waits, however he goes", y.two(0, 1, 0) * 100 + y.two(0, 1, 1), 110);
        y.go(0, -1);
        is("the first goes up, however he goes", y.two(0, 1, 0) * 100 + y.two(0, 1, 1), 110);
        is("nothing changed", y.person(0, 1) * 10 + y.person(1, 1), -9);
    }

    private static void stones() {
        LeanTower x = Due.tower("law 24 18;person bishop 11 2 12;person boy 13 1 3;stone 6 1;stone 3 0;stone 9 2;stone 2 3;");
        is("worst", x.stones(-1), 1);
        is("no such stone", x.stones(4), BAD);
        is("no such stone below", x.stones(-2), BAD);
        is("nothing hung", x.hang(0, 1), 1);
        LeanTower y = Due.tower("law 24 18;stone 6 3;stone 6 3;");
        is("against each other", y.stones(-1), 0);
        is("the first row 0", y.stones(0), 0);
        is("the first row 1", y.stones(1), 2);
        LeanTower z = Due.tower("law 24 18;stone 5 3;stone 20 3;");
        is("the heavy one", z.stones(-1), 15);
        is("first row", z.stones(0) * 10 + z.stones(1), 2);
        LeanTower v = Due.tower("law 8 18;person pilgrim 8 1 99;stone 8 0;");
        v.go(0, 1);
        is("whatever comes", v.stones(-1), 16);
        is("the first of all", v.stones(0), 0);
        is("no stones", Due.tower("law 8 18;person pilgrim 8 1 2;").stones(-1), 8);
        is("no stones, none asked", Due.tower("law 8 18;").stones(0), BAD);
        LeanTower w = Due.tower("law 8 18;stone 10 2;stone 10 3;");
        w.year();
        is("crept is kept", w.stones(-1), 1);
        is("crept is kept", w.stones(0) * 10 + w.stones(1), 2);
    }

    private static void marks() {
        LeanTower x = Due.tower("law 5 9;person pilgrim 5 1 99;person pilgrim 5 1 99;person pilgrim 3 1 99;stone 2 0;");
        x.row(0, 0, 3);
        x.row(1, 2, 2);
        x.row(2, 1, 40);
        x.set(0, 1, 2);
        x.set(0, 2, 1);
        is("none told", x.marks(0, 2, 0, -1), 2);
        is("nobody", x.marks(0, 2, 0, 0), 0);
        is("both", x.marks(0, 2, 0, 1), 3);
        is("no more", x.marks(0, 2, 0, 2), NONE);
        is("west", x.marks(0, -3, 3, 0), 6);
        is("none fit", x.marks(0, 4, 4, -1), 0);
        is("none fit, first", x.marks(0, 4, 4, 0), NONE);
        x.set(0, 1, 4);
        x.set(0, 2, -1);
        is("who is on no side may be in it", x.marks(0, 7, 0, -1), 4);
        is("first", x.marks(0, 7, 0, 0), 1);
        is("fourth", x.marks(0, 7, 0, 3), 7);
        is("longer rows do", x.marks(2, 2, 0, -1), 1);
        is("PLACE", x.marks(1, 2, 0, 0), PLACE);
        is("NULL", x.marks(3, 2, 0, 0), NULL);
        is("marks row", x.marks(8, 2, 0, 0), BAD);
        is("marks i", x.marks(0, 2, 0, -2), BAD);
        is("marks east", x.marks(3, 1000, 0, 0), BAD);
        is("marks north", x.marks(3, 0, -1000, 0), BAD);
        is("marks edges", x.marks(0, -999, 999, 0), NONE);
        x.set(0, 2, 5);
        is("no step", x.marks(0, 2, 0, 0), BAD);
        x.set(0, 2, -2);
        is("no step below", x.marks(0, 2, 0, 0), BAD);
        x.row(1, 0, 2);
        x.set(1, 0, 99);
        is("PLACE ahead of items", x.marks(1, 2, 0, 0), PLACE);
        x.set(2, 3, 99);
        is("items of others are free", x.marks(2, 2, 0, -1), 1);
        LeanTower y = Due.tower("law 5 9;stone 20 1;");
        y.row(0, 0, 0);
        y.year();
        is("with what crept", y.marks(0, 0, 22, 0), 0);
    }

    private static void rescue() {
        String three = "law 9 10;person pilgrim 10 1 0;person pilgrim 10 1 2;person pilgrim 10 1 4;";
        LeanTower x = Due.tower(three);
        is("first out", x.rescue(0), 0);
        is("second", x.rescue(1), 1);
        is("third", x.rescue(2), 2);
        is("not so many", x.rescue(3), NONE);
        is("rescue below", x.rescue(-1), BAD);
        is("nothing changed", x.count(5), 3);
        LeanTower y = Due.tower("law 9 10;person pilgrim 9 1 2;person pilgrim 9 1 0;person pilgrim 10 1 99;person pilgrim 10 1 4;");
        is("19 east are too many", y.rescue(0) * 100 + y.rescue(1) * 10 + y.rescue(2), 103);
        is("those outside are out", y.rescue(3), NONE);
        is("beyond now", Due.tower("law 9 9;person pilgrim 10 1 0;").rescue(0), NONE);
        is("beyond when all are out", Due.tower("law 9 9;person pilgrim 10 1 0;stone 10 2;").rescue(0), NONE);
        is("between", Due.tower("law 9 9;person pilgrim 10 1 0;person pilgrim 10 1 2;").rescue(0), NONE);
        is("in the middle, too", Due.tower("law 9 9;person pilgrim 10 1 8;").rescue(0), 0);
        is("nobody", Due.tower("law 9 9;").rescue(0), NONE);
    }

    private static void fall() {
        is("upright", Due.tower("law 9 9;").fall(), NONE);
        is("too little to creep", Due.tower("law 9 9;stone 9 1;").fall(), NONE);
        is("now", Due.tower("law 9 9;stone 10 1;").fall(), 0);
        is("a year", Due.tower("law 9 10;stone 10 3;").fall(), 1);
        is("99: 10 to 20 in ten years, and on", Due.tower("law 9 19;stone 10 3;").fall(), 10);
        LeanTower x = Due.tower("law 9 11;person pilgrim 11 1 99;person pilgrim 10 1 2;");
        x.go(0, 1);
        is("all standing", x.fall(), 2);
        x.year();
        is("a year is over", x.fall(), 1);
        is("nothing changed", x.lean(3), -1);
    }

    private static void bells() {
        LeanTower x = new LeanTower();
        x.row(0, 0, 5);
        int[] nods = {20, 1, 19, 2, 10};
        for (int i = 0; i < 5; i++) {
            x.set(0, i, nods[i]);
        }
        is("sum", x.bells(0, 5, -1), 10);
        int[] order = {1, 3, 4, 2, 0};
        for (int k = 0; k < 5; k++) {
            is("bell " + k, x.bells(0, 5, k), order[k]);
        }
        is("not so many", x.bells(0, 5, 5), NONE);
        is("two", x.bells(0, 2, -1), 19);
        is("the small one first", x.bells(0, 2, 0), 1);
        is("one", x.bells(0, 1, -1), 20);
        is("one, none more", x.bells(0, 1, 1), NONE);
        is("n 0", x.bells(0, 0, -1), BAD);
        is("n 6", x.bells(0, 6, -1), BAD);
        is("k below", x.bells(0, 5, -2), BAD);
        is("bells row", x.bells(8, 5, -1), BAD);
        is("bells NULL", x.bells(1, 5, -1), NULL);
        x.row(1, 0, 4);
        is("PLACE ahead of items", x.bells(1, 5, -1), PLACE);
        is("no nod", x.bells(1, 4, -1), BAD);
        x.set(0, 4, 21);
        is("no nod above", x.bells(0, 5, -1), BAD);
        is("ahead of what is not asked", x.bells(0, 4, -1), 17);
        is("no nod ahead of not so many", x.bells(0, 5, 9), BAD);
        x.row(2, 2, 3);
        for (int i = 0; i < 3; i++) {
            x.set(2, i, 7);
        }
        is("of several the first", x.bells(2, 3, 0) * 100 + x.bells(2, 3, 1) * 10 + x.bells(2, 3, 2), 12);
    }

    private static void images() {
        LeanTower x = Due.tower(FIVE);
        x.go(0, 1);
        x.halves(3);
        x.hang(0, 3);
        is("image", x.image(0), 1);
        is("an image is no act", x.count(4), 3);
        Due.read(x, "law 4 1;stone 20 0;");
        x.year();
        is("the other image", x.image(1), 1);
        x.year();
        is("restore", x.restore(1), 1);
        is("crept as then", x.lean(3), 2);
        is("no act", x.undo(), STATE);
        is("restore the first", x.restore(0), 1);
        is("people", x.count(1), 5);
        is("minute", x.count(3), 3);
        is("step", x.person(0, 0), 2);
        is("way", x.person(0, 1), 1);
        is("stone", x.hang(0, 1), 3);
        is("restore again", x.restore(0), 1);
        is("the image is as it was", x.hang(0, 3), 3);
        is("bad", x.image(2), BAD);
        is("bad", x.restore(2), BAD);
        is("none kept", Due.tower(FIVE).restore(1), STATE);
        x.halves(1);
        is("kept anew", x.image(0), 1);
        x.halves(1);
        x.restore(0);
        is("minute kept anew", x.count(3), 4);
    }

    private static void kinds() {
        LeanTower x = Due.tower(FIVE);
        int[] kinds = {1, 4, 2, 5, 3};
        int[] sets = {0b000011, 0b010001, 0b000111, 0b110001, 0b001011};
        for (int p = 0; p < 5; p++) {
            is("kind " + p, x.kind(p), kinds[p]);
            for (int kind = 0; kind <= 5; kind++) {
                is("as " + p + " " + kind, x.as(p, kind), (sets[p] >> kind & 1) == 1 ? p : KIND);
                is("status", x.status(), (sets[p] >> kind & 1) == 1 ? 0 : 3);
            }
        }
        is("kind nobody", x.kind(5), BAD);
        is("kind below", x.kind(-1), BAD);
        is("as nobody", x.as(5, 0), BAD);
        is("as kind", x.as(0, 6), BAD);
        is("as kind below", x.as(0, -1), BAD);
    }

    private static void asks() {
        LeanTower x = Due.tower(FIVE);
        int[][] size = {{6, 11, 10, 21, 20}, {-96, 13, 10}, {-991, 11, 10, 22, 21, 20}, {-186, 14, 13, 10},
            {-13, 12, 11, 10, 24, 21, 20}};
        int[][] mark = {{1, 21, 20}, {97, 23, 20, 13, 10}, {-997, 22, 21, 20}, {189, 23, 20, 14, 13, 10},
            {10, 24, 21, 20}};
        for (int p = 0; p < 5; p++) {
            asked(x, p, 0, size[p]);
            asked(x, p, 1, mark[p]);
        }
        is("ask what", x.ask(0, 2), BAD);
        is("ask what below", x.ask(0, -1), BAD);
        is("ask nobody", x.ask(5, 0), BAD);
        is("the trace stays", x.trace(0), 24);
        is("trace below", x.trace(-1), NONE);
        is("trace beyond", x.trace(16), NONE);
    }

    private static void asked(LeanTower x, int person, int what, int[] answerAndBodies) {
        is("ask " + person + " " + what, x.ask(person, what), answerAndBodies[0]);
        for (int i = 1; i < answerAndBodies.length; i++) {
            is("trace " + (i - 1), x.trace(i - 1), answerAndBodies[i]);
        }
        is("trace's end", x.trace(answerAndBodies.length - 1), NONE);
    }

    private static void count() {
        LeanTower x = Due.tower(FIVE);
        x.row(3, 0, 0);
        x.go(0, 1);
        x.halves(7);
        x.feed(0, 3);
        int[] told = {1, 5, 2, 7, 2, 4, 3};
        for (int what = 0; what <= 6; what++) {
            is("count " + what, x.count(what), told[what]);
        }
        is("count above", x.count(7), BAD);
        is("count below", x.count(-1), BAD);
    }

    private static void status() {
        LeanTower x = Due.tower(FIVE);
        x.row(0, 0, -1);
        is("SIZE", x.status(), 4);
        x.row(0, 0, 41);
        is("BAD is passed over", x.status(), 4);
        x.marks(0, 0, 0, -2);
        x.halves(1);
        x.ask(0, 0);
        x.count(0);
        x.as(9, 9);
        is("others are passed over", x.status(), 4);
        x.set(0, 0, 0);
        is("NULL", x.status(), 1);
        x.row(0, 0, 7);
        is("none", x.status(), 0);
        x.set(0, 7, 0);
        is("PLACE", x.status(), 2);
        x.marks(0, 0, 0, 100);
        is("NONE is no finding", x.status(), 0);
        x.row(1, 1, 7);
        x.copy(0, 0, 1, 0, 1);
        is("STORE", x.status(), 5);
        x.bells(0, 1, 0);
        is("BAD behind the findings is passed over", x.status(), 5);
        x.as(0, 2);
        is("KIND", x.status(), 3);
        x.set(0, 0, 5);
        x.as(0, 2);
        x.bells(0, 1, 0);
        is("bells", x.status(), 0);
        x.as(0, 2);
        x.drop(1);
        is("drop", x.status(), 0);
        x.drop(1);
        is("drop again", x.status(), 1);
        x.as(0, 1);
        is("as", x.status(), 0);
        x.marks(1, 0, 0, 0);
        is("marks NULL", x.status(), 1);
        new LeanTower().row(0, 0, 1);
        is("of this object alone", x.status(), 1);
    }
}
