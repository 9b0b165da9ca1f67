import java.util.ArrayList;
import java.util.List;
import java.util.function.Consumer;

/** The sentences of the document's "Terms", each with a test of its edges. */
public final class TermsEdgeTest {
    private static final int NONE = -1000000, BAD = -1000001, STATE = -1000002, FULL = -1000003;
    private static final int NULL = -1000011, PLACE = -1000012, KIND = -1000013, SIZE = -1000014, STORE = -1000015;
    private static final int FAULT = -1000100;

    private static final Due due = new Due("TermsEdgeTest");
    private static Sentences sentences;

    public static void main(String[] args) throws Exception {
        sentences = new Sentences(due);
        beginning();
        rowsAndTexts();
        leansAndActs();
        foretold();
        asked();
        sentences.nothingLeft("Terms");
        due.end();
    }

    private static void is(String call, int got, int want) {
        due.is(call, got, want);
    }

    private static void says(String sentence, Runnable test) {
        sentences.test("Terms", sentence, test);
    }

    private static void beginning() {
        sentences.test("What it is", "An object is used for at most 512 calls after it has been made; what later calls"
                + " answer is free.", TermsEdgeTest::fiveHundredCalls);
        says("Numbers go from 0 on.", TermsEdgeTest::numbersFromNought);
        says("All that is divided is cut towards 0.", TermsEdgeTest::cutTowardsNought);
        says("Sets are bits.", TermsEdgeTest::setsAreBits);
        says("Refusals are answers, the first of these that fits, but as told: BAD (a number is not as told; there is no"
                + " such thing), STATE (as told), FULL (as told), then FINDINGS, of several the first in time:",
                TermsEdgeTest::refusalsInOrder);
        says("-1000010 less 1 NULL (a ROW that is missing), 2 PLACE (no such place of a ROW), 3 KIND (one of the PEOPLE"
                + " that is not that), 4 SIZE (fewer than none), 5 STORE (ROWS of two LANES).",
                TermsEdgeTest::findingsByNumber);
        says("What is refused, or found, changes nothing but status().", TermsEdgeTest::refusedChangesNothing);
    }

    private static void rowsAndTexts() {
        says("1 ROWS 0 .. 7 are missing (at first), or have a LANE (0 bytes, 1 shorts, 2 ints) and 0 to 40 ITEMS, 0 at"
                + " first.", TermsEdgeTest::rows);
        says("TEXTS: THE TAPE has at most 400 bytes;", TermsEdgeTest::tapeOf400);
        says("TOKENS: NAMES (letters a to z), NUMBERS (figures, 3 at most), SIGNS ; bytes 32 and 10 between.",
                TermsEdgeTest::tokens);
        says("tower: law { person } { stone }.", TermsEdgeTest::textOfTower);
        says("law: 'law' STEPS MOST ';' (4 to 32; 1 to 99).", TermsEdgeTest::textOfLaw);
        says("person: 'person' SORT WEIGHT PACE STEP ';' (SORT: 'pilgrim' | 'monk' | 'widow' | 'bishop' | 'boy'; 1 to"
                + " 20; 1 to 4; a STEP, or 99: outside; PEOPLE 0 .. 6, 7 at most).", TermsEdgeTest::textOfPerson);
        says("stone: 'stone' WEIGHT SIDE ';' (1 to 20; 0 to 3; STONES 0 .. 3, 4 at most).", TermsEdgeTest::textOfStone);
        says("A TOWER that is read stands in place of the one before (none at first): MINUTE 0, all stand, it has not"
                + " CREPT, no ACT can be undone.", TermsEdgeTest::readInPlace);
        says("FAULTS, the first TOKEN that has one (its first byte), of one TOKEN the least:", TermsEdgeTest::firstFault);
        says("1 it cannot stand there, or is none (the end: how many bytes there are);", TermsEdgeTest::faultOne);
        says("2 a NUMBER that is not as told;", TermsEdgeTest::faultTwo);
        says("3 a person, a stone more than there is room for (its word).", TermsEdgeTest::faultThree);
    }

    private static void leansAndActs() {
        says("2 STEPS 0 (lowest) to STEPS less 1; the SIDE of a STEP is its rest by 4: 0 east, 1 north, 2 west, 3 south.",
                TermsEdgeTest::sidesOfSteps);
        says("Who is on the highest STEP stands in the middle: he is on no SIDE.", TermsEdgeTest::inTheMiddle);
        says("BURDEN of one: WEIGHT; of a widow twice that, of a bishop 5 more, of a boy half of it (cut).",
                TermsEdgeTest::burdens);
        says("LEAN east: BURDENS of PEOPLE on STEPS of SIDE 0, and STONES there, less those of SIDE 2, and CREPT east;"
                + " LEAN north likewise by 1, 3.", TermsEdgeTest::leans);
        says("It is BEYOND, if one of both, without sign, is more than MOST.", TermsEdgeTest::beyond);
        says("Each of the PEOPLE goes up (1), down (-1), or stands (0).", TermsEdgeTest::waysToGo);
        says("A HALF: the MINUTE is one more; then each whose PACE goes into it makes one STEP his way:",
                TermsEdgeTest::pacesByTheMinute);
        says("up from outside onto STEP 0, down from that outside;", TermsEdgeTest::inAndOut);
        says("on the highest one who goes up stands from then on, so does one who comes outside.",
                TermsEdgeTest::standsAtTheEnds);
        says("(A monk goes two STEPS at once, or as far as there are.)", TermsEdgeTest::monksGoTwo);
        says("ACTS (24 at most are kept, of more the oldest is forgotten; each can be undone, the latest first):",
                TermsEdgeTest::actsKept);
        says("one goes another way; a STONE is hung on another SIDE; n HALVES;", TermsEdgeTest::whatIsAnAct);
        says("a YEAR: it CREEPS east by LEAN east by 10, north likewise (by the LEANS ahead of it).",
                TermsEdgeTest::creeps);
    }

    private static void foretold() {
        says("3 FORETOLD (nothing changes; as all go now, for 64 HALVES).", TermsEdgeTest::foretoldFor64);
        says("WORST: the greatest LEAN of both, without sign, now and behind each HALF.", TermsEdgeTest::worstOfAll);
        says("FIRST: behind how many HALVES it is BEYOND first (0: now); NONE.", TermsEdgeTest::firstOfAll);
        says("MOST PEOPLE: a set of those outside, as many as can be, who may go up from now on, the others as they go,"
                + " so that it is BEYOND at no time: bits; of several the least; NONE: not even with nobody.",
                TermsEdgeTest::mostPeople);
        says("TWO: one and another one outside go up, the second one d HALVES (0 to 9) later: the d by which WORST is"
                + " least, of several the least.", TermsEdgeTest::twoGoUp);
        says("HANG: SIDES for all STONES anew, by which WORST is least: WORST; the SIDE of a STONE, of several the first"
                + " row.", TermsEdgeTest::hangAnew);
        says("MARKS: sets of PEOPLE (bits) that, each on the STEP that a row tells, would alone (with STONES, CREPT as"
                + " they are) make just told LEANS: how many; the i-th, the least first.", TermsEdgeTest::marksOfSets);
        says("RESCUE: all who are on STEPS are brought outside at once, one after another, in an order by which it is"
                + " BEYOND at no time (now, between, when all are out): the first by numbers; NONE.",
                TermsEdgeTest::rescued);
        says("FALL: in how many YEARS, all standing as they do, it is BEYOND (0 on; 99 at most; NONE).",
                TermsEdgeTest::falls);
        says("BELLS: a row of n (1 to 5) NODS (1 to 20), bells rung one after another, each once: a bell nods east by its"
                + " NOD in even places, west in odd ones, all nods add up: the order (numbers from 0) by which the"
                + " greatest sum on the way, without sign, is least, of several the first; that sum.",
                TermsEdgeTest::rung);
    }

    private static void asked() {
        says("KINDS of PEOPLE: 0 PERSON; 1 PILGRIM, a PERSON; 2 WIDOW, a PILGRIM; 3 BOY, a PILGRIM; 4 MONK, a PERSON; 5"
                + " BISHOP, a MONK.", TermsEdgeTest::kindsOfPeople);
        says("By this it is asked (a bishop goes as others do).", TermsEdgeTest::bishopsGoOne);
        says("4 ASKS of PEOPLE, by BODIES, each of which leaves its number in THE TRACE as it begins (the first 16):",
                TermsEdgeTest::traces);
        says("0 SIZE: 10 lent to all PEOPLE: BURDEN. 11 of PILGRIMS: what 10 gives, and MARK. 12 of BOYS: 0 less what 11"
                + " gives. 13 of MONKS: what 10 gives, less 100. 14 of BISHOPS: what 13 gives, twice.",
                TermsEdgeTest::sizes);
        says("1 MARK: 20 lent to all PEOPLE: his number. 21 of PILGRIMS: what 20 gives, and PACE. 22 of WIDOWS: what 21"
                + " gives, less 1000. 23 of MONKS: what 20 gives, less SIZE. 24 of BOYS: what 21 gives, twice.",
                TermsEdgeTest::marksAsked);
        says("(Of an ask the BODY told for the KIND begins, else that of the nearest KIND that it is, too, else the one"
                + " that is lent; SIZE, MARK within others are asked of the same one anew.)",
                TermsEdgeTest::nearestBody);
    }

    // ---- what the words mean

    private static void fiveHundredCalls() {
        LeanTower x = new LeanTower();
        int calls = 0;
        String text = "law 4 9;person boy 8 1 99;stone 1 1;";
        calls += (text.length() + 7) / 8 + 1;
        is("read", Due.read(x, text), 1);
        int way = 0;
        while (calls < 510) {
            int next = calls % 2 == 0 ? 1 : -1;
            is("call " + calls, x.go(0, next), way);
            way = next;
            calls++;
        }
        is("call 511", x.undo(), 23);
        is("call 512", x.person(0, 1), 1);
    }

    private static void numbersFromNought() {
        LeanTower x = Due.tower("law 5 9;person boy 2 1 0;stone 1 1;");
        is("one 0", x.person(0, 0), 0);
        is("one 1", x.person(1, 0), BAD);
        is("one -1", x.person(-1, 0), BAD);
        is("stone 0", x.stones(0) >= 0 ? 1 : 0, 1);
        is("stone 1", x.hang(1, 0), BAD);
        is("row 0", x.row(0, 0, 1), 1);
        is("row -1", x.row(-1, 0, 1), BAD);
        is("item 0", x.set(0, 0, 3), 3);
        is("bell 0", x.bells(0, 1, 0), 0);
        is("out as 0", x.rescue(0), 0);
        is("image 0", x.image(0), 1);
    }

    private static void cutTowardsNought() {
        is("half of 1", Due.tower("law 5 9;person boy 1 1 0;").person(0, 2), 0);
        is("half of 19", Due.tower("law 5 9;person boy 19 1 0;").person(0, 2), 9);
        LeanTower x = Due.tower("law 5 99;stone 19 2;stone 9 3;");
        x.year();
        is("-19 by 10", x.lean(3), -1);
        is("-9 by 10", x.lean(4), 0);
        LeanTower y = Due.tower("law 5 99;stone 19 0;stone 9 1;");
        y.year();
        is("19 by 10", y.lean(3), 1);
        is("9 by 10", y.lean(4), 0);
    }

    private static void setsAreBits() {
        String six = "person boy 1 1 0;".repeat(6);
        LeanTower x = Due.tower("law 5 9;" + six + "person boy 1 1 99;");
        is("the last one alone", x.most(), 64);
        LeanTower y = Due.tower("law 5 9;" + "person boy 1 1 99;".repeat(7));
        is("all of them", y.most(), 127);
        y.row(0, 0, 7);
        is("all sets", y.marks(0, 0, 0, -1), 128);
        is("the last set", y.marks(0, 0, 0, 127), 127);
        is("behind the last", y.marks(0, 0, 0, 128), NONE);
    }

    private static void refusalsInOrder() {
        LeanTower none = new LeanTower();
        is("BAD ahead of STATE: image", none.image(2), BAD);
        is("BAD ahead of STATE: restore", none.restore(-1), BAD);
        is("STATE ahead of BAD: halves", none.halves(0), STATE);
        is("STATE ahead of BAD: lean", none.lean(5), STATE);
        is("STATE ahead of BAD: worst", none.worst(2), STATE);
        is("STATE ahead of BAD: stones", none.stones(-2), STATE);
        is("STATE ahead of BAD: marks", none.marks(8, 1000, 0, -2), STATE);
        is("STATE ahead of BAD: rescue", none.rescue(-1), STATE);
        is("STATE ahead of NULL: marks", none.marks(0, 0, 0, 0), STATE);
        LeanTower x = Due.tower("law 5 9;person boy 1 1 99;");
        is("BAD ahead of SIZE: row", x.row(8, 0, -1), BAD);
        is("BAD ahead of SIZE: lane", x.row(0, 3, -1), BAD);
        is("BAD ahead of NULL: set", x.set(8, -1, 0), BAD);
        is("BAD ahead of NULL: copy", x.copy(0, 0, 8, 0, 0), BAD);
        is("BAD ahead of NULL: marks", x.marks(0, 0, 0, -2), BAD);
        is("BAD ahead of NULL: bells", x.bells(0, 6, 0), BAD);
        is("BAD ahead of NULL: bell", x.bells(0, 1, -2), BAD);
        x.row(1, 0, 0);
        x.row(2, 1, 0);
        is("NULL ahead of PLACE: set", x.set(0, -1, 0), NULL);
        is("NULL ahead of STORE: copy", x.copy(1, 0, 0, 0, 0), NULL);
        is("NULL ahead of PLACE: copy", x.copy(0, -1, 0, -1, -1), NULL);
        is("STORE ahead of PLACE: copy", x.copy(1, 1, 2, 1, 1), STORE);
        is("PLACE", x.copy(1, 1, 1, 0, 0), PLACE);
        is("BAD ahead of KIND", x.as(1, 5), BAD);
        is("BAD ahead of FULL: halves", late(9999).halves(65), BAD);
        is("FULL: halves", late(9999).halves(64), FULL);
        for (int i = 0; i < 50; i++) {
            x.feed(0, 8);
        }
        is("BAD ahead of FULL: feed", x.feed(0, 0), BAD);
        is("FULL: feed", x.feed(0, 1), FULL);
    }

    private static void findingsByNumber() {
        LeanTower x = Due.tower("law 5 9;person boy 1 1 99;");
        is("SIZE", x.row(0, 0, -1), SIZE);
        is("SIZE", x.status(), 4);
        is("NULL", x.drop(0), NULL);
        is("NULL", x.status(), 1);
        x.row(0, 0, 1);
        x.row(1, 2, 1);
        is("PLACE", x.set(0, 1, 1), PLACE);
        is("PLACE", x.status(), 2);
        is("STORE", x.copy(0, 0, 1, 0, 1), STORE);
        is("STORE", x.status(), 5);
        is("KIND", x.as(0, 2), KIND);
        is("KIND", x.status(), 3);
    }

    /** Twins, one of which is asked what it refuses: what follows is answered alike. */
    private static void refusedChangesNothing() {
        List<Consumer<LeanTower>> refused = refusals();
        List<Integer> untouched = everything(busy());
        for (int i = 0; i < refused.size(); i++) {
            LeanTower x = busy();
            refused.get(i).accept(x);
            List<Integer> touched = everything(x);
            for (int k = 0; k < touched.size(); k++) {
                is("behind refusal " + i + ", answer " + k, touched.get(k), untouched.get(k));
            }
        }
    }

    private static List<Consumer<LeanTower>> refusals() {
        List<Consumer<LeanTower>> all = new ArrayList<>();
        all.add(x -> is("row", x.row(0, 0, 41), BAD));
        all.add(x -> is("row", x.row(0, 0, -1), SIZE));
        all.add(x -> is("set", x.set(0, 5, 1), PLACE));
        all.add(x -> is("set", x.set(7, 0, 1), NULL));
        all.add(x -> is("copy", x.copy(0, 0, 1, 0, 1), STORE));
        all.add(x -> is("copy", x.copy(0, 1, 0, 0, 5), PLACE));
        all.add(x -> is("copy", x.copy(0, 0, 0, 1, 5), PLACE));
        all.add(x -> is("drop", x.drop(8), BAD));
        all.add(x -> is("drop", x.drop(7), NULL));
        all.add(x -> is("feed", x.feed(-1, 9), BAD));
        all.add(x -> is("go", x.go(0, 2), BAD));
        all.add(x -> is("go", x.go(7, 1), BAD));
        all.add(x -> is("hang", x.hang(0, 4), BAD));
        all.add(x -> is("hang", x.hang(4, 0), BAD));
        all.add(x -> is("halves", x.halves(65), BAD));
        all.add(x -> is("halves", x.halves(0), BAD));
        all.add(x -> is("person", x.person(0, 5), BAD));
        all.add(x -> is("lean", x.lean(5), BAD));
        all.add(x -> is("worst", x.worst(2), BAD));
        all.add(x -> is("two", x.two(0, 0, 0), BAD));
        all.add(x -> is("stones", x.stones(4), BAD));
        all.add(x -> is("marks", x.marks(0, 1000, 0, 0), BAD));
        all.add(x -> is("marks", x.marks(0, 0, 0, 0), PLACE));
        all.add(x -> is("rescue", x.rescue(-1), BAD));
        all.add(x -> is("bells", x.bells(0, 6, 0), BAD));
        all.add(x -> is("bells", x.bells(7, 5, 0), NULL));
        all.add(x -> is("image", x.image(2), BAD));
        all.add(x -> is("restore", x.restore(2), BAD));
        all.add(x -> is("restore", x.restore(1), STATE));
        all.add(x -> is("kind", x.kind(7), BAD));
        all.add(x -> is("as", x.as(0, 5), KIND));
        all.add(x -> is("ask", x.ask(0, 2), BAD));
        all.add(x -> is("ask", x.ask(7, 0), BAD));
        all.add(x -> is("trace", x.trace(16), NONE));
        all.add(x -> is("count", x.count(7), BAD));
        return all;
    }

    /** Rows, a tower with all people and stones, acts, an image, a tape, a trace. */
    private static LeanTower busy() {
        LeanTower x = Due.tower("law 9 20;person pilgrim 5 1 99;person monk 4 2 99;person widow 3 1 0;"
                + "person bishop 2 3 5;person boy 7 1 7;person boy 9 2 99;person monk 6 1 8;"
                + "stone 4 2;stone 1 1;stone 2 0;stone 20 3;");
        x.row(0, 0, 5);
        x.row(1, 1, 7);
        for (int i = 0; i < 5; i++) {
            x.set(0, i, 3 * i + 1);
        }
        x.halves(2);
        x.image(0);
        x.go(0, 1);
        x.halves(3);
        x.hang(3, 0);
        x.year();
        x.ask(4, 0);
        Due.feed(x, "law 4 1;st");
        return x;
    }

    private static List<Integer> everything(LeanTower x) {
        List<Integer> all = new ArrayList<>();
        seen(x, all);
        for (int k = -1; k < 5; k++) {
            all.add(x.bells(0, 5, k));
        }
        all.add(x.marks(1, 1, 1, -1));
        all.add(x.drop(1));
        for (int undone = 0; undone < 6; undone++) {
            all.add(x.undo());
            seen(x, all);
        }
        all.add(x.restore(0));
        seen(x, all);
        Due.feed(x, "one 7 1;");
        all.add(x.tower());
        all.add(x.stones(-1));
        return all;
    }

    private static void seen(LeanTower x, List<Integer> all) {
        for (int what = 0; what <= 6; what++) {
            all.add(x.count(what));
        }
        for (int p = 0; p < 7; p++) {
            all.add(x.person(p, 0));
            all.add(x.person(p, 1));
        }
        for (int what = 0; what <= 4; what++) {
            all.add(x.lean(what));
        }
        for (int i = 0; i < 7; i++) {
            all.add(x.trace(i));
        }
        all.add(x.stones(-1));
        all.add(x.fault());
    }

    /** A tower in a late minute, with one outside. */
    private static LeanTower late(int minute) {
        LeanTower x = Due.tower("law 5 9;person pilgrim 10 1 99;");
        for (int left = minute; left > 0; left -= 64) {
            x.halves(Math.min(64, left));
        }
        return x;
    }

    // ---- rows, texts

    private static void rows() {
        LeanTower x = new LeanTower();
        for (int row = 0; row < 8; row++) {
            is("missing at first", x.drop(row), NULL);
        }
        is("no row 8", x.drop(8), BAD);
        int[] far = {127, 32767, Integer.MAX_VALUE};
        for (int lane = 0; lane < 3; lane++) {
            is("40 items", x.row(lane, lane, 40), 40);
            is("no item 40", x.set(lane, 40, 1), PLACE);
            is("item 39", x.set(lane, 39, far[lane]), far[lane]);
            is("it wraps around", x.set(lane, 39, far[lane] + 1), -far[lane] - 1);
        }
        is("no lane 3", x.row(3, 3, 40), BAD);
        is("no items", x.row(3, 0, 0), 0);
        is("no item 0", x.set(3, 0, 0), PLACE);
        is("it is there", x.count(0), 4);
        LeanTower y = Due.tower("law 5 9;" + "person pilgrim 1 1 99;".repeat(7));
        y.row(7, 2, 40);
        is("items are 0 at first: all east", y.marks(7, 7, 0, 0), 127);
    }

    private static void tapeOf400() {
        String law = "law 4 1;";
        LeanTower x = new LeanTower();
        is("400 bytes", Due.feed(x, " ".repeat(392) + law), 400);
        is("no more", x.feed(' ', 1), FULL);
        is("they are read", x.tower(), 0);
        is("it is empty", x.feed(' ', 1), 1);
        LeanTower y = new LeanTower();
        Due.feed(y, " ".repeat(393));
        is("of eight bytes none comes", Due.feed(y, law), FULL);
        is("393", y.count(6), 393);
        is("seven do", y.feed(0x20202020202020L, 7), 400);
    }

    private static void tokens() {
        is("letters on the edge", fault("lbw 4 1;"), 1);
        is("a number of 3", Due.read(new LeanTower(), "law 032 099;"), 0);
        is("a number of 4", fault("law 0032 1;"), 1);
        is("its first byte", Due.read(new LeanTower(), "law 0032 1;"), FAULT - 4);
        is("a number of very many", Due.read(new LeanTower(), "law 4 " + "9".repeat(300) + ";"), FAULT - 6);
        is("bytes 10 and 32", Due.read(new LeanTower(), "\n\n law \n 4\n1\n;\n"), 0);
        is("no bytes between where none are needed", Due.read(new LeanTower(), "law4 1;stone1 1;"), 0);
        for (int b = 0; b < 256; b++) {
            if (b != 10 && b != 32) {
                is("byte " + b + " stands nowhere there", Due.read(new LeanTower(), "law 4 1;" + (char) b), FAULT - 8);
            }
        }
    }

    private static int fault(String text) {
        LeanTower x = new LeanTower();
        return Due.read(x, text) <= FAULT ? x.fault() : 0;
    }

    private static void textOfTower() {
        is("law alone", Due.read(new LeanTower(), "law 4 1;"), 0);
        is("a stone alone", Due.read(new LeanTower(), "law 4 1;stone 1 1;"), 0);
        is("no law", Due.read(new LeanTower(), "person boy 1 1 0;"), FAULT);
        is("two laws", Due.read(new LeanTower(), "law 4 1;law 4 1;"), FAULT - 8);
        is("people behind a stone", Due.read(new LeanTower(), "law 4 1;stone 1 1;person boy 1 1 0;"), FAULT - 18);
    }

    private static void textOfLaw() {
        int[] steps = {3, 4, 32, 33};
        int[] most = {0, 1, 99, 100};
        for (int i = 0; i < 4; i++) {
            boolean told = i == 1 || i == 2;
            is("steps " + steps[i], Due.read(new LeanTower(), "law " + steps[i] + " 9;"), told ? 0 : FAULT - 4);
            is("most " + most[i], Due.read(new LeanTower(), "law 4 " + most[i] + ";"), told ? 0 : FAULT - 6);
        }
    }

    private static void textOfPerson() {
        int[] weights = {0, 1, 20, 21};
        int[] paces = {0, 1, 4, 5};
        for (int i = 0; i < 4; i++) {
            boolean told = i == 1 || i == 2;
            is("weight " + weights[i], one(weights[i] + " 1 0"), told ? 1 : FAULT - 19);
            is("pace " + paces[i], one("1 " + paces[i] + " 0"), told ? 1 : FAULT - 21);
        }
        int[] steps = {0, 4, 5, 31, 98, 99, 100};
        for (int step : steps) {
            is("step " + step, one("1 1 " + step), step < 5 || step == 99 ? 1 : FAULT - 23);
        }
        is("99: outside", Due.tower("law 32 9;person boy 1 1 99;").person(0, 0), -1);
        String[] sorts = {"pilgrim", "widow", "boy", "monk", "bishop"};
        for (int i = 0; i < 5; i++) {
            is(sorts[i], Due.tower("law 5 9;person " + sorts[i] + " 1 1 0;").kind(0), i + 1);
            String less = sorts[i].substring(0, sorts[i].length() - 1);
            is(less, Due.read(new LeanTower(), "law 5 9;person " + less + " 1 1 0;"), FAULT - 15);
            is(sorts[i] + "s", Due.read(new LeanTower(), "law 5 9;person " + sorts[i] + "s 1 1 0;"), FAULT - 15);
        }
        is("seven", Due.read(new LeanTower(), "law 5 9;" + "person boy 1 1 0;".repeat(7)), 7);
        is("eight", Due.read(new LeanTower(), "law 5 9;" + "person boy 1 1 0;".repeat(8)), FAULT - 8 - 7 * 17);
    }

    private static int one(String numbers) {
        return Due.read(new LeanTower(), "law 5 9;person boy " + numbers + ";");
    }

    private static void textOfStone() {
        int[] weights = {0, 1, 20, 21};
        for (int i = 0; i < 4; i++) {
            boolean told = i == 1 || i == 2;
            is("weight " + weights[i], Due.read(new LeanTower(), "law 5 9;stone " + weights[i] + " 0;"),
                    told ? 0 : FAULT - 14);
        }
        for (int side = 0; side <= 4; side++) {
            is("side " + side, Due.read(new LeanTower(), "law 5 9;stone 1 " + side + ";"), side < 4 ? 0 : FAULT - 16);
        }
        LeanTower x = Due.tower("law 5 9;" + "stone 1 0;".repeat(4));
        is("four", x.count(2), 4);
        is("the last", x.hang(3, 0), 0);
        is("five", Due.read(x, "law 5 9;" + "stone 1 0;".repeat(5)), FAULT - 48);
    }

    private static void readInPlace() {
        LeanTower x = new LeanTower();
        is("none at first", x.lean(0), STATE);
        Due.read(x, "law 9 9;person monk 9 1 99;person boy 9 1 99;stone 20 0;stone 20 1;");
        x.go(0, 1);
        x.halves(3);
        x.year();
        x.worst(0);
        is("a smaller one", Due.read(x, "law 4 9;person boy 2 1 99;"), 1);
        is("its people", x.person(1, 0), BAD);
        is("its stones", x.count(2), 0);
        is("minute 0", x.count(3), 0);
        is("all stand", x.person(0, 1), 0);
        is("not crept", x.lean(3) * 100 + x.lean(4), 0);
        is("no lean", x.lean(0) * 100 + x.lean(1), 0);
        is("nothing to undo", x.undo(), STATE);
        is("no act", x.count(4), 0);
    }

    private static void firstFault() {
        LeanTower x = new LeanTower();
        is("the first of three", Due.read(x, "law 3 0;person"), FAULT - 4);
        is("2", x.fault(), 2);
        is("the first token, though a later one cannot be", Due.read(x, "law 99 1;#"), FAULT - 4);
        is("its first byte, not its last", Due.read(x, "law 4 1;  personal boy"), FAULT - 10);
        is("1", x.fault(), 1);
        is("of a number that cannot stand there: 1", Due.read(x, "law 4 1 999;"), FAULT - 8);
        is("1", x.fault(), 1);
        String seven = "law 4 1;" + "person boy 1 1 0;".repeat(7);
        is("of one more behind a stone: 1", Due.read(x, seven + "stone 1 1;person"), FAULT - seven.length() - 10);
        is("1", x.fault(), 1);
    }

    private static void faultOne() {
        LeanTower x = new LeanTower();
        String whole = "law 4 1;person boy 1 1 0;stone 1 1;";
        String[] ends = {"", "law", "law 4", "law 4 1", "law 4 1;person", "law 4 1;person boy", "law 4 1;person boy 1",
            "law 4 1;person boy 1 1", "law 4 1;person boy 1 1 0", "law 4 1;stone", "law 4 1;stone 1", "law 4 1;stone 1 1"};
        for (String end : ends) {
            is("the end behind " + end, Due.read(x, end), FAULT - end.length());
            is("1", x.fault(), 1);
            is("blanks count", Due.read(x, end + " \n "), FAULT - end.length() - 3);
        }
        for (int at = 0; at <= whole.length(); at++) {
            LeanTower y = new LeanTower();
            Due.read(y, whole.substring(0, at) + '#' + whole.substring(at));
            is("a byte that is none at " + at, y.fault(), 1);
        }
        is("no token", Due.read(x, "law 4 #1;"), FAULT - 6);
        is("a sign where a number is due", Due.read(x, "law ; 1;"), FAULT - 4);
        is("a name where a number is due", Due.read(x, "law four 1;"), FAULT - 4);
        is("a number where a name is due", Due.read(x, "law 4 1;7"), FAULT - 8);
    }

    private static void faultTwo() {
        is("steps", fault("law 33 1;"), 2);
        is("most", fault("law 4 0;"), 2);
        is("weight", fault("law 4 1;person boy 21 1 0;"), 2);
        is("pace", fault("law 4 1;person boy 1 5 0;"), 2);
        is("step", fault("law 4 1;person boy 1 1 4;"), 2);
        is("weight of a stone", fault("law 4 1;stone 21 0;"), 2);
        is("side", fault("law 4 1;stone 1 4;"), 2);
    }

    private static void faultThree() {
        LeanTower x = new LeanTower();
        String seven = "law 4 1;" + "person boy 1 1 0;".repeat(7);
        is("its word, whatever follows", Due.read(x, seven + "\nperson 0"), FAULT - seven.length() - 1);
        is("3", x.fault(), 3);
        String four = seven + "stone 1 1;".repeat(4);
        is("all there is room for", Due.read(x, four), 7);
        is("a stone more", Due.read(x, four + "stone"), FAULT - four.length());
        is("3", x.fault(), 3);
    }

    // ---- leans, acts

    private static void sidesOfSteps() {
        for (int step = 0; step < 31; step++) {
            LeanTower x = Due.tower("law 32 9;person pilgrim 3 1 " + step + ";");
            is("side of " + step, x.person(0, 4), step % 4);
            is("east of " + step, x.lean(0), new int[] {3, 0, -3, 0}[step % 4]);
            is("north of " + step, x.lean(1), new int[] {0, 3, 0, -3}[step % 4]);
        }
    }

    private static void inTheMiddle() {
        for (int steps = 4; steps <= 32; steps++) {
            LeanTower x = Due.tower("law " + steps + " 9;person pilgrim 20 1 " + (steps - 1) + ";");
            is("no side", x.person(0, 4), NONE);
            is("no lean", x.lean(0) * 100 + x.lean(1), 0);
            is("he is on a step", x.count(5), 1);
        }
        is("outside: no side", Due.tower("law 4 9;person pilgrim 20 1 99;").person(0, 4), NONE);
    }

    private static void burdens() {
        String[] sorts = {"pilgrim", "monk", "widow", "bishop", "boy"};
        int[] least = {1, 1, 2, 6, 0};
        int[] greatest = {20, 20, 40, 25, 10};
        for (int i = 0; i < 5; i++) {
            LeanTower x = Due.tower("law 5 9;person " + sorts[i] + " 1 1 0;person " + sorts[i] + " 20 1 1;");
            is("least of a " + sorts[i], x.person(0, 2), least[i]);
            is("greatest of a " + sorts[i], x.person(1, 2), greatest[i]);
            is("east", x.lean(0), least[i]);
            is("north", x.lean(1), greatest[i]);
        }
    }

    private static void leans() {
        is("nobody", Due.tower("law 5 9;").lean(0) + Due.tower("law 5 9;").lean(1), 0);
        LeanTower all = Due.tower("law 32 9;" + "person widow 20 1 0;".repeat(7) + "stone 20 0;".repeat(4));
        is("the most east", all.lean(0), 360);
        all.year();
        is("and crept", all.lean(0), 396);
        LeanTower x = Due.tower("law 32 9;person widow 20 1 3;person widow 20 1 7;stone 5 3;stone 7 1;stone 4 2;");
        is("south less north", x.lean(1), -40 - 40 - 5 + 7);
        is("west", x.lean(0), -4);
        x.year();
        is("crept south", x.lean(1), -78 - 7);
    }

    private static void beyond() {
        for (int side = 0; side < 4; side++) {
            is("just MOST " + side, Due.tower("law 5 20;stone 20 " + side + ";").lean(2), 0);
            is("one more " + side, Due.tower("law 5 19;stone 20 " + side + ";").lean(2), 1);
        }
        is("not both together", Due.tower("law 5 20;stone 20 0;stone 20 1;").lean(2), 0);
    }

    private static void waysToGo() {
        LeanTower x = Due.tower("law 5 9;person boy 2 1 1;");
        is("stands", x.person(0, 1), 0);
        is("up", x.go(0, 1), 0);
        is("down", x.go(0, -1), 1);
        is("stands", x.go(0, 0), -1);
        x.halves(5);
        is("who stands stays", x.person(0, 0), 1);
        is("no 2", x.go(0, 2), BAD);
        is("no -2", x.go(0, -2), BAD);
    }

    private static void pacesByTheMinute() {
        LeanTower x = Due.tower("law 32 99;person boy 2 1 99;person boy 2 2 99;person boy 2 3 99;person boy 2 4 99;");
        for (int p = 0; p < 4; p++) {
            x.go(p, 1);
        }
        for (int minute = 1; minute <= 24; minute++) {
            x.halves(1);
            is("minute", x.count(3), minute);
            for (int p = 0; p < 4; p++) {
                is("pace " + (p + 1) + " in minute " + minute, x.person(p, 0), minute / (p + 1) - 1);
            }
        }
        LeanTower y = Due.tower("law 32 99;person boy 2 4 99;");
        y.halves(3);
        y.go(0, 1);
        y.halves(1);
        is("by the minute, not by when he set out", y.person(0, 0), 0);
    }

    private static void inAndOut() {
        LeanTower x = Due.tower("law 4 9;person boy 2 1 99;");
        x.go(0, 1);
        x.halves(1);
        is("onto step 0", x.person(0, 0), 0);
        is("he goes on", x.person(0, 1), 1);
        x.go(0, -1);
        x.halves(1);
        is("outside", x.person(0, 0), -1);
        x.halves(1);
        is("not farther", x.person(0, 0), -1);
    }

    private static void standsAtTheEnds() {
        LeanTower x = Due.tower("law 4 9;person boy 2 1 2;person boy 2 1 0;person boy 2 2 3;person boy 2 2 99;");
        x.go(0, 1);
        x.go(1, -1);
        x.go(2, 1);
        x.go(3, -1);
        x.halves(1);
        is("comes to the highest", x.person(0, 0), 3);
        is("stands there at once", x.person(0, 1), 0);
        is("comes outside", x.person(1, 0), -1);
        is("stands there at once", x.person(1, 1), 0);
        is("not his half", x.person(2, 1), 1);
        x.halves(1);
        is("on the highest, up: no farther", x.person(2, 0), 3);
        is("he stands", x.person(2, 1), 0);
        is("outside, down: no farther", x.person(3, 0), -1);
        is("he stands", x.person(3, 1), 0);
        x.go(0, -1);
        x.halves(1);
        is("down again from the highest", x.person(0, 0), 2);
    }

    private static void monksGoTwo() {
        is("outside up", monk(99, 1), 1);
        is("0 up", monk(0, 1), 2);
        is("to the highest", monk(2, 1), 4);
        is("one is left", monk(3, 1), 4);
        is("none is left", monk(4, 1), 4);
        is("highest down", monk(4, -1), 2);
        is("2 down", monk(2, -1), 0);
        is("1 down", monk(1, -1), -1);
        is("0 down", monk(0, -1), -1);
        is("outside down", monk(99, -1), -1);
    }

    private static int monk(int step, int way) {
        LeanTower x = Due.tower("law 5 99;person monk 1 1 " + step + ";");
        x.go(0, way);
        x.halves(1);
        int now = x.person(0, 0);
        is("stands at an end only, from " + step, x.person(0, 1), now == 4 && way == 1 || now == -1 ? 0 : way);
        return now;
    }

    private static void actsKept() {
        LeanTower x = Due.tower("law 5 9;person boy 2 1 99;stone 1 0;");
        for (int i = 1; i <= 24; i++) {
            x.hang(0, i % 4);
        }
        is("24", x.count(4), 24);
        is("the 25th", x.hang(0, 1), 0);
        is("24 still", x.count(4), 24);
        for (int i = 23; i >= 0; i--) {
            is("undo", x.undo(), i);
            is("the latest first", x.lean(i % 2) != 0 || x.lean((i + 1) % 2) != 0 ? 1 : 0, 1);
        }
        is("the oldest is forgotten: the stone is where it was behind it", x.lean(1), 1);
        is("no more", x.undo(), STATE);
        for (int i = 0; i < 60; i++) {
            x.hang(0, i % 4);
            x.halves(1);
        }
        is("24 of 120", x.count(4), 24);
        for (int i = 23; i >= 0; i--) {
            is("undo", x.undo(), i);
        }
        is("12 halves are undone", x.count(3), 48);
    }

    private static void whatIsAnAct() {
        LeanTower x = Due.tower("law 5 9;person boy 2 1 99;stone 1 0;");
        is("the way he goes: no act", x.go(0, 0) + x.count(4), 0);
        is("the side it hangs on: no act", x.hang(0, 0) + x.count(4), 0);
        x.go(0, 1);
        is("another way", x.count(4), 1);
        x.hang(0, 3);
        is("another side", x.count(4), 2);
        x.halves(64);
        is("64 halves are one", x.count(4), 3);
        x.year();
        is("a year", x.count(4), 4);
        x.image(0);
        x.worst(0);
        x.most();
        x.stones(-1);
        x.rescue(0);
        x.fall();
        x.ask(0, 0);
        x.row(0, 0, 1);
        Due.feed(x, "law");
        is("nothing else is", x.count(4), 4);
        x.tower();
        is("a fault leaves them", x.count(4), 4);
    }

    private static void creeps() {
        LeanTower x = Due.tower("law 5 99;stone 20 0;stone 20 3;");
        x.year();
        is("east", x.lean(3), 2);
        is("south", x.lean(4), -2);
        for (int i = 0; i < 4; i++) {
            x.year();
        }
        is("22, 24, 26, 28 give 2 each", x.lean(3) * 100 + x.lean(4), 990);
        x.year();
        is("30 gives 3", x.lean(3) * 100 + x.lean(4), 1300 - 13);
        LeanTower y = Due.tower("law 5 99;stone 9 0;stone 10 1;");
        y.year();
        is("9 gives none, 10 one", y.lean(3) * 10 + y.lean(4), 1);
    }

    // ---- foretold

    /** Two who hold each other upright, a step down in four halves, until the lower one is outside. */
    private static LeanTower bothGoDown(int step, String others) {
        LeanTower x = Due.tower("law 32 9;person pilgrim 10 4 " + step + ";person pilgrim 10 4 " + (step + 2) + ";"
                + others);
        x.go(0, -1);
        x.go(1, -1);
        return x;
    }

    private static void foretoldFor64() {
        LeanTower last = bothGoDown(15, "");
        is("the 64th half counts", last.worst(1), 64);
        is("the 64th half counts", last.worst(0), 10);
        is("nothing changes", last.count(3) * 100 + last.person(0, 0), 15);
        is("nothing changes", last.person(0, 1), -1);
        LeanTower behind = bothGoDown(16, "");
        is("the 68th doesn't", behind.worst(1), NONE);
        is("the 68th doesn't", behind.worst(0), 0);
        behind.halves(3);
        is("nor the 65th", behind.worst(1), NONE);
        behind.halves(1);
        is("then it is the 64th", behind.worst(1), 64);
        LeanTower late = late(9999);
        late.go(0, 1);
        is("beyond minute 9999", late.worst(1), 1);
        is("nothing changes", late.count(3), 9999);
    }

    private static void worstOfAll() {
        is("nobody", Due.tower("law 5 9;").worst(0), 0);
        is("now, without sign", Due.tower("law 5 9;stone 7 2;stone 8 3;").worst(0), 8);
        LeanTower x = Due.tower("law 5 9;person pilgrim 5 1 99;stone 1 3;");
        x.go(0, 1);
        is("south and the stone", x.worst(0), 6);
        LeanTower y = Due.tower("law 5 9;person pilgrim 5 1 0;stone 6 2;");
        is("he holds it", y.worst(0), 1);
        y.go(0, -1);
        is("behind a half he doesn't", y.worst(0), 6);
    }

    private static void firstOfAll() {
        is("now", Due.tower("law 5 9;stone 10 2;").worst(1), 0);
        is("never", Due.tower("law 5 10;stone 10 2;").worst(1), NONE);
        LeanTower x = Due.tower("law 5 9;person pilgrim 10 4 99;");
        x.go(0, 1);
        is("behind 4", x.worst(1), 4);
        x.halves(3);
        is("behind 1", x.worst(1), 1);
        x.halves(1);
        is("now", x.worst(1), 0);
    }

    private static void mostPeople() {
        is("nobody there", Due.tower("law 5 9;").most(), 0);
        is("nobody outside", Due.tower("law 5 9;person boy 2 1 0;").most(), 0);
        is("none of them may", Due.tower("law 5 9;person widow 5 1 99;").most(), 0);
        is("just MOST", Due.tower("law 5 10;person widow 5 1 99;").most(), 1);
        is("beyond with nobody", Due.tower("law 5 9;person boy 2 1 99;stone 10 0;").most(), NONE);
        is("as many as can be, not the least number", Due.tower("law 5 4;person pilgrim 3 1 99;person pilgrim 2 1 99;"
                + "person pilgrim 2 1 99;").most(), 6);
        is("of several the least", Due.tower("law 5 4;" + "person pilgrim 2 1 99;".repeat(3)).most(), 3);
        LeanTower x = Due.tower("law 5 9;person pilgrim 10 1 99;person boy 2 1 99;");
        x.go(0, 1);
        is("the others as they go", x.most(), NONE);
        LeanTower y = Due.tower("law 5 9;person pilgrim 9 1 99;person boy 2 1 99;");
        y.go(1, 1);
        is("one who goes already stays in", y.most(), 2);
        is("the 64th half counts", bothGoDown(15, "").most(), NONE);
        is("the 68th doesn't", bothGoDown(16, "").most(), 0);
    }

    private static void twoGoUp() {
        LeanTower x = Due.tower("law 32 99;person pilgrim 10 1 99;person pilgrim 10 1 99;");
        is("together 20, one later 10: later", x.two(0, 1, 0), 1);
        is("10", x.two(0, 1, 1), 10);
        LeanTower y = Due.tower("law 4 99;person boy 1 1 99;person boy 1 1 99;");
        is("all alike: at once", y.two(0, 1, 0), 0);
        is("0", y.two(0, 1, 1), 0);
        LeanTower nine = slowOneGoesUp(3);
        is("nine", nine.two(0, 1, 0), 9);
        is("10", nine.two(0, 1, 1), 10);
        LeanTower ten = slowOneGoesUp(2);
        is("ten would be the best, but is no d: the least of those alike", ten.two(0, 1, 0), 0);
        is("20", ten.two(0, 1, 1), 20);
        x.go(1, 1);
        is("who goes up already sets out later, too", x.two(0, 1, 0), 1);
        is("10", x.two(0, 1, 1), 10);
        x.go(0, -1);
        is("who goes down goes up", x.two(0, 1, 0), 1);
        is("nothing changes", x.person(0, 1) * 10 + x.person(1, 1), -9);
        String fours = "person pilgrim 4 1 99;person pilgrim 4 1 99;";
        is("the 64th half counts, whatever d is", bothGoDown(15, fours).two(2, 3, 1), 10);
        LeanTower behind = bothGoDown(16, fours);
        behind.halves(3);
        is("the 65th doesn't, if he goes later, too", behind.two(2, 3, 0), 1);
        is("4", behind.two(2, 3, 1), 4);
    }

    /**
     * A slow one goes round east, north, west, south, four halves each; whoever sets out less than
     * so many halves behind him (12 behind minute 0, 9 behind minute 3) comes where he is.
     */
    private static LeanTower slowOneGoesUp(int minute) {
        LeanTower x = Due.tower("law 5 99;person boy 1 1 99;person pilgrim 10 1 99;person pilgrim 10 4 0;");
        x.halves(minute);
        x.go(2, 1);
        return x;
    }

    private static void hangAnew() {
        is("no stones", Due.tower("law 5 9;person pilgrim 8 1 2;").stones(-1), 8);
        LeanTower one = Due.tower("law 5 9;stone 5 3;");
        is("anywhere", one.stones(-1), 5);
        is("the first side", one.stones(0), 0);
        is("nothing is hung", one.lean(1), -5);
        LeanTower four = Due.tower("law 5 9;" + "stone 1 3;".repeat(4));
        int[] first = {0, 0, 2, 2};
        is("upright", four.stones(-1), 0);
        for (int k = 0; k < 4; k++) {
            is("the first row " + k, four.stones(k), first[k]);
        }
        LeanTower heavy = Due.tower("law 5 9;" + "stone 20 0;".repeat(4));
        is("upright", heavy.stones(-1), 0);
        LeanTower against = Due.tower("law 5 9;person pilgrim 8 1 0;stone 8 0;");
        is("against him", against.stones(-1), 0);
        is("west", against.stones(0), 2);
        LeanTower crept = Due.tower("law 5 9;stone 20 3;");
        crept.year();
        is("against what crept", crept.stones(-1), 18);
        is("north", crept.stones(0), 1);
        String south = "person pilgrim 10 1 3;stone 10 0;";
        is("the 64th half counts: 10 more are north", bothGoDown(15, south).stones(-1), 10);
        is("aside", bothGoDown(15, south).stones(0), 0);
        LeanTower climber = Due.tower("law 8 9;person pilgrim 8 1 99;stone 8 0;");
        climber.go(0, 1);
        is("he comes by on every side", climber.stones(-1), 16);
        is("so the first side", climber.stones(0), 0);
        is("the 68th doesn't", bothGoDown(16, south).stones(-1), 0);
        is("against the one who stands south", bothGoDown(16, south).stones(0), 1);
    }

    private static void marksOfSets() {
        LeanTower none = Due.tower("law 5 9;stone 3 2;");
        none.row(0, 0, 0);
        is("nobody: one set", none.marks(0, -3, 0, -1), 1);
        is("that of nobody", none.marks(0, -3, 0, 0), 0);
        is("no more", none.marks(0, -3, 0, 1), NONE);
        is("not so", none.marks(0, -2, 0, -1), 0);
        LeanTower x = Due.tower("law 5 9;person pilgrim 5 1 0;person pilgrim 5 1 99;person pilgrim 10 1 99;stone 20 0;");
        x.year();
        x.row(0, 0, 3);
        is("where they are doesn't count: crept 2, stone 20", x.marks(0, 22, 0, 0), 0);
        is("two sets", x.marks(0, 32, 0, -1), 2);
        is("the least first", x.marks(0, 32, 0, 0), 3);
        is("then", x.marks(0, 32, 0, 1), 4);
        is("no third", x.marks(0, 32, 0, 2), NONE);
        x.set(0, 2, 2);
        is("west", x.marks(0, 22, 0, -1), 2);
        is("nobody", x.marks(0, 22, 0, 0), 0);
        is("all", x.marks(0, 22, 0, 1), 7);
        x.set(0, 2, 4);
        is("in the middle he weighs nothing", x.marks(0, 22, 0, 1), 4);
        x.set(0, 2, -1);
        is("outside, too", x.marks(0, 22, 0, 1), 4);
        is("both LEANS just as told", x.marks(0, 22, 1, -1), 0);
    }

    private static void rescued() {
        is("nobody", Due.tower("law 9 9;").rescue(0), NONE);
        is("nobody on steps", Due.tower("law 9 9;person boy 2 1 99;").rescue(0), NONE);
        LeanTower all = Due.tower("law 9 1;" + "person widow 20 1 8;".repeat(7));
        for (int k = 0; k < 7; k++) {
            is("from the middle, too: " + k, all.rescue(k), k);
        }
        is("no eighth", all.rescue(7), NONE);
        is("nothing changes", all.count(5), 7);
        String two = "person pilgrim 10 1 0;person pilgrim 10 1 4;";
        LeanTower x = Due.tower("law 9 10;person pilgrim 10 1 2;" + two);
        is("not 0, then 20 were east", x.rescue(0), 1);
        is("0", x.rescue(1), 0);
        is("2", x.rescue(2), 2);
        is("no more", x.rescue(3), NONE);
        is("now", Due.tower("law 9 19;" + two).rescue(0), NONE);
        is("now, just MOST", Due.tower("law 9 20;" + two).rescue(0), 0);
        String against = "person pilgrim 10 1 0;person pilgrim 10 1 2;";
        is("between", Due.tower("law 9 9;" + against).rescue(0), NONE);
        is("between, just MOST", Due.tower("law 9 10;" + against).rescue(1), 1);
        is("when all are out", Due.tower("law 9 9;person pilgrim 10 1 0;stone 10 2;").rescue(0), NONE);
        is("when all are out, just MOST", Due.tower("law 9 10;person pilgrim 10 1 0;stone 10 2;").rescue(0), 0);
    }

    private static void falls() {
        is("now", Due.tower("law 5 9;stone 10 2;").fall(), 0);
        is("in a year", Due.tower("law 5 10;stone 10 2;").fall(), 1);
        is("never, 9 gives none", Due.tower("law 5 9;stone 9 2;").fall(), NONE);
        is("never, nobody", Due.tower("law 5 1;").fall(), NONE);
        is("the longest there is", Due.tower("law 5 99;stone 10 1;").fall(), 29);
        LeanTower x = Due.tower("law 5 10;person pilgrim 10 1 0;");
        x.go(0, -1);
        is("he stands", x.fall(), 1);
        is("nothing changes", x.lean(3), 0);
    }

    private static void rung() {
        is("one of 1", sum(1), 1);
        is("one of 20", sum(20), 20);
        is("five of 20", sum(20, 20, 20, 20, 20), 20);
        is("in their order", order(20, 20, 20, 20, 20), 1234);
        is("1, then 20 west", sum(1, 20), 19);
        is("in their order", order(1, 20), 1);
        is("20 first were 20", sum(20, 1), 19);
        is("the second first", order(20, 1), 10);
        is("west, east: 2, -1, 2", sum(2, 3, 3), 2);
        is("of several the first", order(2, 3, 3), 12);
        is("five of 1", sum(1, 1, 1, 1, 1), 1);
    }

    private static LeanTower belfry(int... nods) {
        LeanTower x = new LeanTower();
        x.row(0, 0, nods.length);
        for (int i = 0; i < nods.length; i++) {
            x.set(0, i, nods[i]);
        }
        return x;
    }

    private static int sum(int... nods) {
        return belfry(nods).bells(0, nods.length, -1);
    }

    private static int order(int... nods) {
        LeanTower x = belfry(nods);
        int figures = 0;
        for (int k = 0; k < nods.length; k++) {
            figures = 10 * figures + x.bells(0, nods.length, k);
        }
        is("no more", x.bells(0, nods.length, nods.length), NONE);
        return figures;
    }

    // ---- asked

    private static LeanTower oneOfEach(int ahead) {
        return Due.tower("law 5 9;" + "person boy 1 1 99;".repeat(ahead) + "person pilgrim 20 4 99;person widow 20 4 99;"
                + "person boy 19 4 99;person monk 20 4 99;person bishop 20 4 99;");
    }

    private static void kindsOfPeople() {
        LeanTower x = oneOfEach(0);
        String[] kinds = {"110000", "111000", "110100", "100010", "100011"};
        for (int p = 0; p < 5; p++) {
            is("kind", x.kind(p), p + 1);
            is("no kind -1", x.as(p, -1), BAD);
            for (int kind = 0; kind < 6; kind++) {
                is(p + " as " + kind, x.as(p, kind), kinds[p].charAt(kind) == '1' ? p : KIND);
            }
            is("no kind 6", x.as(p, 6), BAD);
        }
    }

    private static void bishopsGoOne() {
        LeanTower x = Due.tower("law 5 99;person bishop 1 1 99;person monk 1 1 99;");
        x.go(0, 1);
        x.go(1, 1);
        x.halves(1);
        is("a bishop", x.person(0, 0), 0);
        is("a monk", x.person(1, 0), 1);
        is("he is asked as a monk", x.as(0, 4), 0);
        x.ask(0, 1);
        is("by the monk's body", x.trace(0), 23);
    }

    private static void traces() {
        LeanTower x = oneOfEach(0);
        for (int i = -1; i <= 16; i++) {
            is("empty at first", x.trace(i), NONE);
        }
        x.ask(2, 0);
        int[] longest = {12, 11, 10, 24, 21, 20};
        for (int i = 0; i < 16; i++) {
            is("the longest, as they begin: " + i, x.trace(i), i < 6 ? longest[i] : NONE);
        }
        x.ask(3, 0);
        is("anew", x.trace(0), 13);
        is("10", x.trace(1), 10);
        is("nothing of the one before", x.trace(2), NONE);
    }

    private static void sizes() {
        for (int ahead = 0; ahead <= 2; ahead++) {
            LeanTower x = oneOfEach(ahead);
            is("pilgrim", x.ask(ahead, 0), 20 + ahead + 4);
            is("widow", x.ask(ahead + 1, 0), 40 + ahead + 1 + 4 - 1000);
            is("boy", x.ask(ahead + 2, 0), -(9 + 2 * (ahead + 2 + 4)));
            is("monk", x.ask(ahead + 3, 0), 20 - 100);
            is("bishop", x.ask(ahead + 4, 0), 2 * (25 - 100));
        }
    }

    private static void marksAsked() {
        for (int ahead = 0; ahead <= 2; ahead++) {
            LeanTower x = oneOfEach(ahead);
            is("pilgrim", x.ask(ahead, 1), ahead + 4);
            is("widow", x.ask(ahead + 1, 1), ahead + 1 + 4 - 1000);
            is("boy", x.ask(ahead + 2, 1), 2 * (ahead + 2 + 4));
            is("monk", x.ask(ahead + 3, 1), ahead + 3 + 80);
            is("bishop", x.ask(ahead + 4, 1), ahead + 4 + 150);
        }
    }

    private static void nearestBody() {
        String[] sizes = {"11 10 21 20", "11 10 22 21 20", "12 11 10 24 21 20", "13 10", "14 13 10"};
        String[] marks = {"21 20", "22 21 20", "24 21 20", "23 20 13 10", "23 20 14 13 10"};
        LeanTower x = oneOfEach(0);
        for (int p = 0; p < 5; p++) {
            bodies(x, p, 0, sizes[p].split(" "));
            bodies(x, p, 1, marks[p].split(" "));
        }
    }

    private static void bodies(LeanTower x, int person, int what, String[] numbers) {
        x.ask(person, what);
        for (int i = 0; i < numbers.length; i++) {
            is("body " + i + " of " + person, x.trace(i), Integer.parseInt(numbers[i]));
        }
        is("no more of " + person, x.trace(numbers.length), NONE);
    }
}
