/** What the tests share: calls are compared with what is due, and texts are fed to a tower. */
final class Due {
    private final String test;
    private int calls;
    private int wrong;

    Due(String test) {
        this.test = test;
    }

    void is(String call, int got, int want) {
        calls++;
        if (got != want) {
            wrong++;
            System.out.println(test + ": " + call + " answered " + got + ", due is " + want);
        }
    }

    int calls() {
        return calls;
    }

    /** Prints how many there were, and ends with exit code 1 if one was wrong. */
    void end() {
        System.out.println(test + ": " + calls + " answers, " + wrong + " wrong");
        if (wrong > 0 || calls == 0) {
            System.exit(1);
        }
    }

    /** Feeds a text whose characters are bytes; the answer of the last feed(). */
    static int feed(LeanTower x, String text) {
        int answer = 0;
        for (int i = 0; i < text.length(); i += 8) {
            int n = Math.min(8, text.length() - i);
            long w = 0;
            for (int k = 0; k < n; k++) {
                w = w << 8 | text.charAt(i + k) & 255;
            }
            answer = x.feed(w, n);
        }
        return answer;
    }

    static int read(LeanTower x, String text) {
        feed(x, text);
        return x.tower();
    }

    /** A new tower by a text that has no fault. */
    static LeanTower tower(String text) {
        LeanTower x = new LeanTower();
        if (read(x, text) < 0) {
            throw new IllegalStateException("the test's own text is at fault: " + text);
        }
        return x;
    }
}
