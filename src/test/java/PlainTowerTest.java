import java.util.Random;

/** Long runs of calls, the same every time, answered alike by the program and by PlainTower. */
public final class PlainTowerTest {
    private static final String[] SORTS = {"pilgrim", "monk", "widow", "bishop", "boy"};
    private static final int[] WILD = {Integer.MIN_VALUE, Integer.MAX_VALUE, -2, -1, 0, 1, 40, 41, 64, 65, 99, 1000};

    private static final Due due = new Due("PlainTowerTest");
    private static Random random;
    private static LeanTower x;
    private static PlainTower y;

    public static void main(String[] args) {
        for (int run = 0; run < 1500; run++) {
            random = new Random(run);
            x = new LeanTower();
            y = new PlainTower();
            if (run % 10 != 0) {
                readBoth(tower());
            }
            if (run % 10 == 1) {
                passBoth("halves", 155);
            } else if (run % 10 == 2) {
                passBoth("year", 60 + below(30));
            }
            for (int call = 0; call < 150; call++) {
                callBoth("run " + run + ", call " + call + ": ");
            }
        }
        due.end();
    }

    private static int below(int n) {
        return random.nextInt(n);
    }

    /** Mostly a number from 0 to n, n too; now and then one far off. */
    private static int about(int n) {
        return below(25) == 0 ? WILD[below(WILD.length)] : below(n + 1);
    }

    private static String tower() {
        int steps = 4 + below(below(2) == 0 ? 29 : 6);
        StringBuilder text = new StringBuilder("law " + steps + " " + (1 + below(below(2) == 0 ? 99 : 30)) + ";");
        int heaviest = below(3) == 0 ? 4 : 20;
        for (int i = below(8); i > 0; i--) {
            text.append(below(2) == 0 ? "person " : " person\n").append(SORTS[below(5)]).append(' ');
            text.append(1 + below(heaviest)).append(' ').append(1 + below(4)).append(' ');
            text.append(below(2) == 0 ? 99 : below(steps)).append(';');
        }
        for (int i = below(5); i > 0; i--) {
            text.append("stone ").append(1 + below(20)).append(' ').append(below(4)).append(';');
        }
        return text.toString();
    }

    /** A tower with a token lost, doubled, or a byte changed. */
    private static String spoilt() {
        String text = tower();
        int at = below(text.length());
        switch (below(6)) {
            case 0: return text.substring(0, at);
            case 1: return text.substring(0, at) + text.substring(at + 1);
            case 2: return text.substring(0, at) + (char) below(256) + text.substring(at);
            case 3: return text.substring(0, at) + " 99;;9a\t\n".charAt(below(9)) + text.substring(at);
            case 4: return text + tower().substring(below(8));
            default: return text + "stone 1 1;".repeat(below(5));
        }
    }

    private static void feedBoth(String text) {
        for (int at = 0; at < text.length(); ) {
            int n = Math.min(1 + below(8), text.length() - at);
            long w = random.nextLong();
            for (int i = 0; i < n; i++) {
                w = w << 8 | text.charAt(at + i);
            }
            due.is("feed", x.feed(w, n), y.feed(w, n));
            at += n;
        }
    }

    private static void readBoth(String text) {
        feedBoth(text);
        due.is("tower of " + text, x.tower(), y.tower());
        due.is("fault of " + text, x.fault(), y.fault());
    }

    /** To the edge of what MINUTES, or what it has CREPT, can be. */
    private static void passBoth(String what, int times) {
        for (int i = 0; i < times; i++) {
            boolean halves = what.equals("halves");
            due.is(what + " " + i, halves ? x.halves(64) : x.year(), halves ? y.halves(64) : y.year());
        }
    }

    private static void callBoth(String where) {
        int a = about(7);
        int b = about(7);
        int c = about(4);
        switch (below(31)) {
            case 0: case 1: due.is(where + "row", x.row(a, c % 3, b), y.row(a, c % 3, b)); break;
            case 2: {
                int v = below(3) == 0 ? random.nextInt() : below(34) - 1;
                due.is(where + "set", x.set(a, b, v), y.set(a, b, v));
                break;
            }
            case 3: {
                int j = about(3);
                int n = about(5);
                due.is(where + "copy", x.copy(a, c, b, j, n), y.copy(a, c, b, j, n));
                break;
            }
            case 4: if (below(4) == 0) due.is(where + "drop", x.drop(a), y.drop(a)); break;
            case 5: {
                int n = about(8);
                long w = random.nextLong();
                if (below(8) == 0) due.is(where + "feed", x.feed(w, n), y.feed(w, n));
                break;
            }
            case 6: if (below(6) == 0) readBoth(spoilt()); break;
            case 7: if (below(6) == 0) readBoth(tower()); break;
            case 8: case 9: due.is(where + "go", x.go(a, c % 3 - 1), y.go(a, c % 3 - 1)); break;
            case 10: due.is(where + "hang", x.hang(c, b % 5), y.hang(c, b % 5)); break;
            case 11: case 12: {
                int n = below(3) == 0 ? about(66) : about(6);
                due.is(where + "halves", x.halves(n), y.halves(n));
                break;
            }
            case 13: due.is(where + "year", x.year(), y.year()); break;
            case 14: if (below(2) == 0) due.is(where + "undo", x.undo(), y.undo()); break;
            case 15: due.is(where + "worst", x.worst(c % 3), y.worst(c % 3)); break;
            case 16: due.is(where + "most", x.most(), y.most()); break;
            case 17: due.is(where + "two", x.two(a, b, c % 2), y.two(a, b, c % 2)); break;
            case 18: if (below(5) == 0) due.is(where + "stones", x.stones(c - 1), y.stones(c - 1)); break;
            case 19: case 20: marksBoth(where); break;
            case 21: due.is(where + "rescue", x.rescue(a), y.rescue(a)); break;
            case 22: due.is(where + "fall", x.fall(), y.fall()); break;
            case 23: bellsBoth(where); break;
            case 24: due.is(where + "image", x.image(c % 3), y.image(c % 3)); break;
            case 25: if (below(4) == 0) due.is(where + "restore", x.restore(c % 3), y.restore(c % 3)); break;
            case 26: due.is(where + "kind", x.kind(a), y.kind(a)); break;
            case 27: due.is(where + "as", x.as(a, b), y.as(a, b)); break;
            case 28: due.is(where + "ask", x.ask(a, c % 3), y.ask(a, c % 3)); break;
            case 29: due.is(where + "trace", x.trace(a), y.trace(a)); break;
            default: lookAtAll(where); break;
        }
        due.is(where + "status", x.status(), y.status());
    }

    private static void marksBoth(String where) {
        int row = about(7);
        if (below(3) != 0) {
            due.is(where + "row", x.row(row, 0, 7), y.row(row, 0, 7));
            for (int i = 0; i < 7; i++) {
                int step = below(6) - 1;
                due.is(where + "set", x.set(row, i, step), y.set(row, i, step));
            }
        }
        int east = below(4) == 0 ? about(1001) - 1 : y.lean(3) + below(21) - 10;
        int north = below(4) == 0 ? about(20) : y.lean(4) + below(21) - 10;
        int i = about(4) - 1;
        due.is(where + "marks", x.marks(row, east, north, i), y.marks(row, east, north, i));
        int[] as = {x.lean(0), x.lean(1)};
        due.is(where + "marks", x.marks(row, as[0], as[1], -1), y.marks(row, as[0], as[1], -1));
    }

    private static void bellsBoth(String where) {
        int row = about(7);
        int n = 1 + below(5);
        due.is(where + "row", x.row(row, 1, n), y.row(row, 1, n));
        for (int i = 0; i < n; i++) {
            int nod = below(30) == 0 ? below(40) - 10 : 1 + below(20);
            due.is(where + "set", x.set(row, i, nod), y.set(row, i, nod));
        }
        int told = below(4) == 0 ? about(6) : n;
        for (int k = -2; k <= n; k++) {
            due.is(where + "bells", x.bells(row, told, k), y.bells(row, told, k));
        }
    }

    private static void lookAtAll(String where) {
        for (int what = -1; what <= 7; what++) {
            due.is(where + "count " + what, x.count(what), y.count(what));
            due.is(where + "lean " + what, x.lean(what), y.lean(what));
        }
        for (int p = -1; p <= 7; p++) {
            for (int what = -1; what <= 5; what++) {
                due.is(where + "person " + p + " " + what, x.person(p, what), y.person(p, what));
            }
        }
        for (int i = -1; i <= 16; i++) {
            due.is(where + "trace " + i, x.trace(i), y.trace(i));
        }
    }
}
