import java.util.regex.Matcher;
import java.util.regex.Pattern;

/**
 * Promise 21, say(), against the grammar of Terms 2 written as one pattern: of every short text that could go on,
 * each sign behind it either can stand there or is the one that say() tells.
 */
final class GrammarTest {
    private static final String SIGNS = "a0123:=<>~/&|!()b Z";
    private static final String FEW = "a01:=~/&!()";
    private static final int LONGEST = 8;
    private static final Pattern SAYING = Pattern.compile(saying());

    private static OddsInCourt x = new OddsInCourt();
    private static int calls = 0;

    private GrammarTest() {
    }

    /** An event with ( ) at most this many in one another; how & and | bind does not matter for where signs stand. */
    private static String event(int deep) {
        String thing = deep == 0 ? "!*a" : "!*(?:a|\\(" + event(deep - 1) + "\\))";
        return thing + "(?:[&|]" + thing + ")*";
    }

    private static String saying() {
        String event = event(5);
        String term = "(?:[0-9]{1,8}:[1-9][0-9]{0,7}|" + event + "(?:/" + event + ")?)";
        return term + "[=<>]" + term + "|" + event + "~" + event + "(?:/" + event + ")?";
    }

    public static void main(String[] args) {
        goOn("", FEW, LONGEST);
        goOn("", SIGNS, 4);
        for (String begun : new String[] {"(((((a", "((((a&(", "(((((a)))))", "((((", "a=(((((", "1234567", "12345678",
            "1:1234567", "1:12345678", "a=1234567", "a=1:12345678", "a/a=a/", "a~a/a", "a|a&!(a", "a=1:2"}) {
            goOn(begun, SIGNS, begun.length() + 3);
        }
        Due.end("GrammarTest");
    }

    /** A text that could go on or end: it itself, and it with each sign behind it. */
    private static void goOn(String begun, String signs, int longest) {
        boolean whole = SAYING.matcher(begun).matches();
        Due.is("say " + begun, whole ? 0 : -1 - begun.length(), say(begun));
        if (begun.length() >= longest) {
            return;
        }
        for (int i = 0; i < signs.length(); i++) {
            String next = begun + signs.charAt(i);
            if (couldBe(next)) {
                goOn(next, signs, longest);
            } else {
                Due.is("say " + next, -1 - begun.length(), say(next));
                Due.is("say " + next + "=a", -1 - begun.length(), say(next + "=a"));
            }
        }
    }

    private static boolean couldBe(String begun) {
        Matcher matcher = SAYING.matcher(begun);
        return matcher.matches() || matcher.hitEnd();
    }

    /** What say() answers; a new object behind each saying, and ahead of the 512th call. */
    private static int say(String text) {
        if (calls > 480 || x.count(2) > 0 || x.count(0) == 0) {
            x = new OddsInCourt();
            x.node(0, 2);
            calls = 2;
        }
        calls += 6 + text.length() / 4;
        return Due.say(x, text);
    }
}
