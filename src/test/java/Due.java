import java.util.NoSuchElementException;

/** What the tests share: told answers against due ones, rows, and texts put in by sign() and end(). */
final class Due {
    private static int wrong = 0;
    private static int asked = 0;

    private Due() {
    }

    static void is(String what, long due, long got) {
        asked++;
        if (due != got) {
            wrong++;
            System.out.println(what + " answered " + got + ", due is " + due);
        }
    }

    static void is(String what, boolean due, boolean got) {
        is(what, due ? 1 : 0, got ? 1 : 0);
    }

    /** The row is just these numbers. */
    static void row(String what, OddsInCourt x, long... due) {
        is(what + ": numbers of the row", due.length, x.count(7));
        for (int i = 0; i < due.length && i < x.count(7); i++) {
            is(what + ": row(" + i + ")", due[i], x.row(i));
        }
        noRow(what, x, -1);
        noRow(what, x, due.length);
    }

    static void noRow(String what, OddsInCourt x, int i) {
        boolean thrown = false;
        try {
            x.row(i);
        } catch (NoSuchElementException e) {
            thrown = true;
        }
        is(what + ": row(" + i + ") throws", true, thrown);
    }

    static void noOf(String what, OddsInCourt x, int node, int asked) {
        boolean thrown = false;
        try {
            x.of(node, asked);
        } catch (NoSuchElementException e) {
            thrown = true;
        }
        is(what + ": of(" + node + ", " + asked + ") throws", true, thrown);
    }

    /** Puts a text behind THE TEXT, which is empty. */
    static void write(OddsInCourt x, String text) {
        for (int i = 0; i < text.length(); i += 4) {
            int v = 0;
            for (int j = i; j < i + 4; j++) {
                v = v << 8 | (j < text.length() ? text.charAt(j) : 0);
            }
            x.sign(v);
        }
        x.end(text.length());
    }

    static int say(OddsInCourt x, String text) {
        write(x, text);
        return x.say();
    }

    static void end(String test) {
        System.out.println(test + ": " + asked + " asked, " + wrong + " wrong");
        if (wrong != 0) {
            System.exit(1);
        }
    }
}
