/** What the tests share: rows of due answers, and slips and texts told in one go. */
final class Check {
    static final String SIGNS = "<>+-.!?()wnlea";
    private final String test;
    private int wrong = 0;
    private int rows = 0;

    Check(String test) {
        this.test = test;
    }

    void due(String what, long got, long want) {
        rows++;
        if (got != want) {
            wrong++;
            System.out.println(test + ": " + what + " answered " + got + ", due is " + want);
        }
    }

    /** A man's cell, load, place and whether he has stopped. */
    void man(String what, ClaySlips x, int man, int... want) {
        String[] parts = {"cell", "load", "place", "stopped"};
        for (int k = 0; k < want.length; k++) {
            due(what + ", " + parts[k] + " of " + man, x.of(man, k), want[k]);
        }
    }

    void end() {
        System.out.println(test + ": " + rows + " rows, " + wrong + " wrong");
        if (wrong != 0) {
            System.exit(1);
        }
    }

    static void slip(ClaySlips x, int man, String signs) {
        for (char c : signs.toCharArray()) {
            x.write(man, SIGNS.indexOf(c));
        }
    }

    /** Eight bytes a call, so that many calls are left. */
    static void text(ClaySlips x, String text) {
        for (int at = 0; at < text.length(); at += 8) {
            int end = Math.min(at + 8, text.length());
            long v = 0;
            for (int k = at; k < end; k++) {
                v = v << 8 | text.charAt(k);
            }
            x.type(v, end - at);
        }
    }

    static ClaySlips told(String text) {
        ClaySlips x = new ClaySlips();
        text(x, text);
        int items = x.read();
        if (items < 0) {
            throw new IllegalArgumentException(text + ": " + items);
        }
        x.clear();
        return x;
    }

    /** A street as told, some steps on. */
    static ClaySlips after(int steps, String text) {
        ClaySlips x = told(text);
        steps(x, steps);
        return x;
    }

    static int reads(String text) {
        ClaySlips x = new ClaySlips();
        text(x, text);
        return x.read();
    }

    static void steps(ClaySlips x, int n) {
        for (int i = 0; i < n; i++) {
            x.step();
        }
    }
}
