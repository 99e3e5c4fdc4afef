/** Promises 19 to 25, Terms 2, and TOO GREAT of Terms 3 in ALONE: each sentence that names an edge. */
final class EdgeSayingTest {
    private EdgeSayingTest() {
    }

    public static void main(String[] args) {
        sign();
        signRefused();
        signBytes();
        end();
        endRefused();
        sayTaken();
        endsTooEarly();
        cantStand();
        numbers();
        letters();
        brackets();
        forty();
        twelve();
        behindWrong();
        so();
        deepEvents();
        tenLetters();
        beside();
        soOpen();
        term();
        termRefused();
        slip();
        slipRefused();
        slipOpen();
        slipTooGreat();
        which();
        whichRefused();
        Due.end("EdgeSayingTest");
    }

    /** The rich one with this text as THE TEXT. */
    private static OddsInCourt with(String text) {
        OddsInCourt x = Same.rich();
        x.end(0);
        Due.write(x, text);
        return x;
    }

    private static String times(String part, int n) {
        return part.repeat(n);
    }

    // ---- P19, P20

    private static void sign() {
        OddsInCourt x = new OddsInCourt();
        for (int i = 1; i <= 15; i++) {
            Due.is("P19 sign: four more", 4 * i, x.sign(0));
        }
        Due.is("P19 sign: 60, the most", 60, x.count(8));
        for (int n = 53; n <= 56; n++) {
            OddsInCourt y = with(times("a", n));
            Due.is("P19 sign: behind " + n, n + 4, y.sign(-1));
        }
        Due.is("P19 sign: behind none", 4, new OddsInCourt().sign(0));
    }

    private static void signRefused() {
        for (int n = 57; n <= 60; n++) {
            String text = "a=1:2" + times("&", n - 5);
            Same.refused("P19 sign: there would be more than 60, behind " + n, () -> with(text), x -> x.sign(0));
        }
        OddsInCourt x = with(times("a", 60));
        x.sign('b' << 24);
        x.end(5);
        x.sign('=' << 24 | 'b' << 16);
        x.end(7);
        Due.is("P19 sign: a refused one leaves the signs", -2, x.say());
    }

    private static void signBytes() {
        OddsInCourt x = Same.rich();
        x.end(0);
        x.sign(0x613D643D);
        x.end(3);
        Due.is("P19 sign: the highest byte first", 2, x.say());
        Due.is("P19 sign: the highest byte first", 0, x.term(2, 0));
        Due.row("P19 sign: a is the first", x, 1, 4);
        // the bytes of a=b with bit 7, or with what a sign-extended char would hold
        for (int v : new int[] {0xE13D6200, 0x61BD6200, 0x613DE200}) {
            OddsInCourt y = Same.rich();
            y.end(0);
            y.sign(v);
            y.end(3);
            int p = v == 0xE13D6200 ? 0 : v == 0x61BD6200 ? 1 : 2;
            Due.is("P19 sign: a byte above 127 is a sign of its own", -1 - p, y.say());
        }
    }

    private static void end() {
        for (int n = 0; n <= 5; n++) {
            OddsInCourt x = Same.rich();
            Due.is("P20 end: " + n + " of 5", true, x.end(n));
            Due.is("P20 end: signs then", n, x.count(8));
        }
        Due.is("P20 end: 0 of none", true, new OddsInCourt().end(0));
        OddsInCourt y = with(times("a", 60));
        Due.is("P20 end: 60 of 60", true, y.end(60));
        Same.becomes("P20 end: as if it had been told so", 1, () -> with("a=1:2&"), x -> x.end(5) ? 1 : 0,
            Same::rich);
    }

    private static void endRefused() {
        Same.denied("P20 end: it has not so many", Same::rich, x -> x.end(6));
        Same.denied("P20 end: far more", Same::rich, x -> x.end(Integer.MAX_VALUE));
        Same.denied("P20 end: below 0", Same::rich, x -> x.end(-1));
        Same.denied("P20 end: far below 0", Same::rich, x -> x.end(Integer.MIN_VALUE));
        Same.denied("P20 end: 1 of none", OddsInCourt::new, x -> x.end(1));
        Same.denied("P20 end: 61 of 60", () -> with(times("a", 60)), x -> x.end(61));
        Same.denied("P20 end: it had so many once", () -> {
            OddsInCourt x = Same.rich();
            x.end(2);
            return x;
        }, x -> x.end(3));
    }

    // ---- P21

    private static void taken(String what, String text) {
        OddsInCourt x = with(text);
        Due.is(what + ": " + text, 2, x.say());
        Due.is(what + ", counted: " + text, 3, x.count(2));
        Due.is(what + ", THE TEXT is empty then: " + text, 0, x.count(8));
        Due.is(what + ", the ROW stays: " + text, 4, x.count(7));
    }

    /** It can't be said; THE TEXT is empty then, and all else is as it was. */
    private static void wrong(String what, String text, int p) {
        Same.becomes(what + ": " + text, -1 - p, () -> with(text), x -> x.say(), () -> with(""));
    }

    private static void sayTaken() {
        for (String text : new String[] {"a=b", "a<b", "a>b", "a~b", "a~b/c", "a/b=c/d", "1:2=3:4", "a=1:2",
            "1:2=a", "1:2<a/b", "!a=!!!b", "a|b&!c=d", "(a|b)&c=d", "!(a)=b", "a~(b|c)/!d", "a&a&a~a|a/a"}) {
            taken("P21 say", text);
        }
        Same.becomes("P21 say: just one SAYING more", 2, Same::rich, x -> x.say(), () -> {
            OddsInCourt x = with("");
            Due.say(x, "a=1:2");
            return x;
        });
    }

    private static void endsTooEarly() {
        for (String text : new String[] {"", "a", "!", "(", "(a", "((a)", "a&", "a|", "a|!", "a/", "a/b", "a/b&",
            "a=", "a=!", "a=(", "a=(b", "a=b&", "a=b/", "a=b/(c", "a~", "a~b/", "a~b&", "1", "12345678", "1:",
            "1:2", "1:12345678", "a=1", "a=1:", "1:2="}) {
            wrong("P21 say: its end, if it ends too early", text, text.length());
        }
    }

    private static void cantStand() {
        String[] texts = {"=a", "&a=b", ")a=b", ":1=a", "e=a", "A=a", "/a=b", "~a", "a!b=c", "a(b)=c", "aa=b",
            "a:1=b", "a1=b", "a)=b", "(a))=b", "(a=b)", "(a/b)=c", "(a~b)", "()=a", "a&&b=c", "a||b=c", "a&|b=c",
            "a&=b", "a|/b", "!=a", "!&a=b", "a//b=c", "a/b/c=d", "a/=b", "a/1:2=b", "a/b~c", "a~b=c", "a~b~c",
            "a~b/c/d", "a~b/c=d", "a~b/c~d", "a~1:2", "1:2~a", "1:2/a=b", "1:2&a=b", "!1:2=a", "(1:2)=a",
            "a&1:2=b", "a==b", "a<=b", "a=>b", "a=b=c", "a=b<c", "a=b~c", "a=b/c/d", "a=b/c=d", "a=1:2/b",
            "a=1:2&b", "a=1:2=b", "a=1:2 ", "a=b)", "a=b!", "a=b1", "a=bb", "a=1b", "a=1=b"};
        int[] places = {0, 0, 0, 0, 0, 0, 0, 0, 1, 1, 1,
            1, 1, 1, 3, 2, 2, 2, 1, 2, 2, 2,
            2, 2, 1, 1, 2, 3, 2, 2, 3, 3, 3,
            5, 5, 5, 2, 3, 3, 3, 1, 1,
            2, 2, 2, 2, 3, 3, 3, 5, 5, 5,
            5, 5, 5, 3, 3, 3, 3, 3, 3};
        Due.is("as many places as texts", texts.length, places.length);
        for (int i = 0; i < texts.length; i++) {
            wrong("P21 say: the sign can't stand there", texts[i], places[i]);
        }
        String[] blanks = {" a=b", "a =b", "a= b", "a=b ", "a& b=c", "( a)=b", "1 :2=a", "1: 2=a"};
        int[] at = {0, 1, 2, 3, 2, 1, 1, 2};
        for (int i = 0; i < blanks.length; i++) {
            wrong("T2: no blanks", blanks[i], at[i]);
        }
        for (char sign : new char[] {0, 9, 10, 32, '*', '+', '`', '{', '}', '@', ';', 127, 128, 225, 255}) {
            wrong("P21 say: no sign of a SAYING", sign + "=b", 0);
            wrong("P21 say: no sign of a SAYING, within", "a" + sign + "b", 1);
            wrong("P21 say: no sign of a SAYING, behind", "a=b" + sign, 3);
        }
        wrong("P21 say: the first that can't stand", "a==&&", 2);
    }

    private static void numbers() {
        taken("T2: NUMBERS of 1 digit", "0:1=a");
        taken("T2: NUMBERS of 8 digits", "12345678:87654321=a");
        taken("T2: NUMBERS of 8 digits", "a=99999999:99999999");
        taken("T2: 0 ahead in the first", "00000000:1=a");
        taken("T2: it may be above 1", "a<3:2");
        wrong("T2: 9 digits", "123456789:1=a", 8);
        wrong("T2: 9 digits, the first 0", "000000001:1=a", 8);
        wrong("T2: 9 digits behind :", "1:123456789=a", 10);
        wrong("T2: 9 digits on the other side", "a=123456789:1", 10);
        wrong("T2: 9 digits behind : on the other side", "a=1:123456789", 12);
        wrong("T2: no digit", "a=:1", 2);
        wrong("T2: no digit behind :", "1:=a", 2);
        wrong("T2: the first digit of the second is 0", "1:0=a", 2);
        wrong("T2: the first digit of the second is 0", "1:01=a", 2);
        wrong("T2: the first digit of the second is 0", "a=1:0", 4);
        wrong("T2: the signs about 0 and 9", "/:1=a", 0);
        wrong("T2: the signs about 0 and 9", "1::=a", 2);
        wrong("T2: the signs about 0 and 9", "1:1;=a", 3);
        wrong("T2: two :", "1:2:3=a", 3);
        OddsInCourt x = with("99999999:99999998=00000007:99999999");
        x.say();
        Due.is("P23 term: 8 digits", 0, x.term(2, 0));
        Due.row("P23 term: 8 digits", x, 99999999, 99999998);
        Due.is("P23 term: 0 ahead", 0, x.term(2, 1));
        Due.row("P23 term: 0 ahead", x, 7, 99999999);
    }

    private static OddsInCourt nodes(int n) {
        OddsInCourt x = new OddsInCourt();
        for (int i = 0; i < n; i++) {
            x.node(0, 2);
        }
        return x;
    }

    private static void letters() {
        for (int n = 0; n <= 10; n++) {
            for (int letter = 0; letter < 11; letter++) {
                String text = (char) ('a' + letter) + "=0:1";
                Due.is("T2: the letter " + letter + " of " + n + " NODES", letter < n ? 0 : -1,
                    Due.say(nodes(n), text));
            }
            Due.is("T2: the sign ahead of a", -1, Due.say(nodes(n), "`=0:1"));
        }
        OddsInCourt x = nodes(1);
        Due.is("T2: a NODE that there is as it is told: not yet", -3, Due.say(x, "a&b=0:1"));
        x.node(0, 2);
        Due.is("T2: a NODE that there is as it is told: now", -3, Due.say(x, "a=k:1"));
        Due.is("T2: a NODE that there is as it is told: now", 0, Due.say(x, "a&b=0:1"));
        Due.is("T2: it stands", 1, x.so(0));
    }

    private static void brackets() {
        taken("T2: 5 in one another", "(((((a)))))=b");
        taken("T2: 5 in one another, ! ahead of each", "!(!(!(!(!(!a)))))=b");
        taken("T2: 5 in one another, twice", "(((((a)))))&(((((b)))))=c");
        taken("T2: 5 in one another, on both sides", "(((((a)))))=(((((b)))))");
        taken("T2: 5 in one another behind /", "a/(((((b)))))=c");
        taken("T2: 5 in one another with others aside", "((((a&(b)|(c)))))=d");
        wrong("T2: 6 in one another", "((((((a))))))=b", 5);
        wrong("T2: 6 in one another with !", "((((!(!(a))))))=b", 7);
        wrong("T2: 6 in one another behind others", "(((((a&(b))))))=c", 7);
        wrong("T2: 6 in one another on the other side", "a=((((((b))))))", 7);
        wrong("T2: 6 in one another behind /", "a~b/((((((c))))))", 9);
        wrong("T2: one ) too many", "(((((a))))))=b", 11);
        wrong("T2: one ) too few", "(((((a))))=b", 10);
    }

    /** An event of n signs, n odd. */
    private static String event(int n) {
        return "a" + times("&a", (n - 1) / 2);
    }

    private static void forty() {
        taken("T2: 40 signs", event(37) + "=!b");
        taken("T2: 40 signs", event(35) + "=1:22");
        taken("T2: 39 signs", event(37) + "=b");
        wrong("P21 say: 41, the first 40 could go on", event(37) + "=!b&", 40);
        wrong("P21 say: 41, the first 40 could end, the next can't stand", event(37) + "=!bb", 40);
        wrong("P21 say: 41, the first 40 could go on, though they can't end", event(37) + "=!!b", 40);
        wrong("P21 say: 41, the first 40 could go on in a number", event(35) + "=1:222", 40);
        wrong("P21 say: 41, the first 40 have no = yet", event(39) + "=b", 40);
        wrong("P21 say: 41, ( at the last place", event(37) + "=a&(b)", 40);
        wrong("P21 say: 60", event(37) + "=!b" + times("&", 20), 40);
        wrong("P21 say: 60 of !", times("!", 60), 40);
        wrong("P21 say: the sign at 39 can't stand", event(37) + "=a)b", 39);
        wrong("P21 say: the sign at 39 can't stand, 60 signs", event(37) + "=aa" + times("&", 20), 39);
        wrong("P21 say: an earlier sign can't stand, 60 signs", "a==" + times("a", 57), 2);
        wrong("P21 say: 40 signs that end too early", event(37) + "=!!", 40);
        wrong("P21 say: 39 signs that end too early", event(37) + "=!", 39);
    }

    private static OddsInCourt full(String text) {
        OddsInCourt x = new OddsInCourt();
        x.node(0, 4);
        x.set(0, 0, 1);
        for (int i = 1; i <= 12; i++) {
            Due.is("T2: at most 12 SAYINGS", i - 1, Due.say(x, "a=1:" + i));
        }
        x.chance(0);
        Due.write(x, text);
        return x;
    }

    private static void twelve() {
        for (String text : new String[] {"a=1:2", "a==", "", "b", event(41)}) {
            Same.becomes("P21 say: -100, there are 12 (asked first): " + text, -100, () -> full(text), x -> x.say(),
                () -> full(""));
        }
        OddsInCourt x = full("");
        Due.is("P21 say: the twelfth stands", 0, x.so(11));
        Due.is("P21 say: so does the fourth", 1, x.so(3));
        Due.is("P21 say: none behind", -1, x.so(12));
    }

    /** What could not be said leaves nothing behind for the next one. */
    private static void behindWrong() {
        for (String wrong : new String[] {"a|b|c", "a|b/c|d", "a~b|c=d", "a&b&c/d&a", "a/b&c=", "1:2=3", "a|b=c|d)"}) {
            for (String right : new String[] {"a&b=3:32", "a=1:4", "b/a=1:2", "a~b", "1:2=2:4", "1:4=a"}) {
                OddsInCourt x = with(wrong);
                OddsInCourt y = with("");
                Due.is("P21 say: " + wrong, true, x.say() < 0);
                Due.is("P21 say: behind " + wrong, 2, Due.say(x, right));
                Due.is("P21 say", 2, Due.say(y, right));
                for (int kind = 1; kind <= 4; kind++) {
                    Due.is("P24 slip of " + right + " behind " + wrong, y.slip(2, kind), x.slip(2, kind));
                }
                Due.is("P25 which of " + right + " behind " + wrong, y.which(2), x.which(2));
            }
        }
    }

    // ---- P22, P23

    /** The rich one with these sayings as 2, 3, ... */
    private static OddsInCourt saying(String... texts) {
        OddsInCourt x = with("");
        for (String text : texts) {
            Due.is("said: " + text, x.count(2), Due.say(x, text));
        }
        return x;
    }

    private static void isSo(String what, String text, int due) {
        Same.unchanged(what + ": " + text, due, () -> saying(text), x -> x.so(2));
    }

    private static void so() {
        isSo("P22 so: just as great", "a=1:4", 1);
        isSo("P22 so: not less", "a<1:4", 0);
        isSo("P22 so: not more", "a>1:4", 0);
        isSo("P22 so: hardly less", "24999999:99999999<a", 1);
        isSo("P22 so: hardly more", "25000000:99999999>a", 1);
        isSo("P22 so: above 1", "a|!a<2:1", 1);
        isSo("P22 so: 0", "a&!a=0:99999999", 1);
        isSo("P22 so: FORCED ones do matter", "d=1:1", 1);
        isSo("P22 so: with ~, FORCED", "a~d", 1);
        isSo("P22 so: with ~, not", "a~b", 0);
        isSo("P22 so: with ~ GIVEN a third", "a~d/b", 1);
        isSo("P22 so: with ~, never so", "a&!a~b", 1);
        Same.unchanged("P22 so: NOW does not matter", 1, Same::weightless, x -> x.so(0));
        Same.refused("P22 so: none such", Same::rich, x -> x.so(2));
        Same.refused("P22 so: below 0", Same::rich, x -> x.so(-1));
        Same.refused("P22 so: far off", Same::rich, x -> x.so(Integer.MAX_VALUE));
        Same.refused("P22 so: none", OddsInCourt::new, x -> x.so(0));
    }

    /** Five ( ) in one another, with one thing kept back by | and one by & in each. */
    private static void deepEvents() {
        isSo("T2: 5 in one another", "(((((a)))))=1:4", 1);
        isSo("T2: 5 in one another, ! ahead of each", "!(!(!(!(!(!a)))))=1:4", 1);
        isSo("T2: 5 in one another, ! five times", "!(!(!(!(!(a)))))=3:4", 1);
        // a|b&c at each depth: 29 in 80
        isSo("T2: | binds least, at each depth", "a|b&(a|b&(a|b&(a|b&(a|b&(a|b&c)))))<3:8", 1);
        isSo("T2: | binds least, at each depth", "a|b&(a|b&(a|b&(a|b&(a|b&(a|b&c)))))>1:3", 1);
        isSo("T2: | binds least, with ~", "d~a|b&(a|b&(a|b&(a|b&(a|b&(a|b&c)))))", 1);
        isSo("T2: 5 in one another behind /", "a/(((((b&c)))))=4:7", 1);
        isSo("T2: & binds more than |", "b&c|a=29:80", 1);
        isSo("T2: ! binds more than &", "!a&b=3:16", 1);
        isSo("T2: ! ahead of ( )", "!(a&b)=13:16", 1);
    }

    private static void tenLetters() {
        OddsInCourt x = new OddsInCourt();
        for (int i = 0; i < 10; i++) {
            x.node(0, 6);
            x.set(i, 0, 1 + i % 5);
        }
        for (int i = 0; i < 10; i++) {
            String letter = "" + (char) ('a' + i);
            Due.is("T2: the letter " + letter, i, Due.say(x, letter + "=" + (1 + i % 5) + ":6"));
            Due.is("P22 so: the letter " + letter, 1, x.so(i));
        }
        Due.is("T2: all ten letters", 10, Due.say(x, "a&b&c&d&e&f&g&h&i&j=14400:60466176"));
        Due.is("P22 so: all ten letters", 1, x.so(10));
        Due.is("T2: letters apart", 11, Due.say(x, "a&g|!j/f|!h=19:102"));
        Due.is("P23 term: letters apart", 0, x.term(11, 0));
        // a&g 1 in 18, j 5 in 6, f and h by themselves: 1 less 17/18 times 5/6
        Due.row("P23 term: letters apart", x, 23, 108);
        for (int node = 0; node < 10; node++) {
            x.force(node, node & 1);
        }
        Due.is("P23 term: all FORCED", 0, x.term(10, 0));
        Due.row("P23 term: all FORCED", x, 0, 1);
    }

    /** d is 1 in 2 here, and by itself. */
    private static OddsInCourt free(String text) {
        OddsInCourt x = saying(text);
        x.force(3, -1);
        return x;
    }

    private static void beside() {
        String[] texts = {"a~d", "d~a", "a&b~d", "a~d/b", "a~d/c&b", "a~b/c", "a~b", "a~a", "a~!a", "a|b~d|!d",
            "d~a|d", "a&d~b&!d", "a~a/d", "a~d/a|d", "(((((a)))))~(((((d)))))", "(((((a)))))~(((((b)))))",
            "a~(((((!a)))))", "a~d/(((((b)))))", "a~d/(((((a|d)))))"};
        int[] due = {1, 1, 1, 1, 1, 0, 0, 0, 0, 1, 0, 0, 0, 0, 1, 0, 0, 1, 0};
        for (int i = 0; i < texts.length; i++) {
            String text = texts[i];
            Same.unchanged("P22 so: with ~, " + text, due[i], () -> free(text), x -> x.so(2));
        }
    }

    private static void soOpen() {
        isSo("P22 so: OPEN, on the first side", "a/b&!b=1:2", -2);
        isSo("P22 so: OPEN, on the other side", "1:2=a/b&!b", -2);
        isSo("P22 so: OPEN, FORCED not to be", "a/!d<b", -2);
        isSo("P22 so: OPEN, with ~", "a~b/!d", -2);
        isSo("P22 so: not OPEN by what is not GIVEN", "!d=0:1", 1);
    }

    private static void term() {
        Same.tells("P23 term: side 0", 0, Same::rich, x -> x.term(0, 0), 3, 4);
        Same.tells("P23 term: side 1, in lowest terms", 0, () -> saying("a=6:8"), x -> x.term(2, 1), 3, 4);
        Same.tells("P23 term: 0 by 1", 0, () -> saying("a=0:8"), x -> x.term(2, 1), 0, 1);
        Same.tells("P23 term: NOW does not matter", 0, Same::weightless, x -> x.term(0, 0), 3, 4);
        Same.unchanged("P23 term: OPEN, side 0", -2, () -> saying("a/!d=1:2"), x -> x.term(2, 0));
        Same.unchanged("P23 term: OPEN, side 1", -2, () -> saying("1:2=a/!d"), x -> x.term(2, 1));
        Same.tells("P23 term: the other side is OPEN", 0, () -> saying("1:2=a/!d"), x -> x.term(2, 0), 1, 2);
    }

    private static void termRefused() {
        Same.refused("P23 term: none such", Same::rich, x -> x.term(2, 0));
        Same.refused("P23 term: below 0", Same::rich, x -> x.term(-1, 0));
        Same.refused("P23 term: side 2", Same::rich, x -> x.term(0, 2));
        Same.refused("P23 term: side -1", Same::rich, x -> x.term(0, -1));
        Same.refused("P23 term: one with ~", Same::rich, x -> x.term(1, 0));
        Same.refused("P23 term: one with ~, side 1", Same::rich, x -> x.term(1, 1));
        Same.refused("P23 term: one with ~, OPEN", () -> saying("a~b/!d"), x -> x.term(2, 0));
        Same.refused("P23 term: none", OddsInCourt::new, x -> x.term(0, 0));
    }

    // ---- P24, P25

    private static void slips(String what, String text, int... due) {
        for (int kind = 1; kind <= 4; kind++) {
            int one = kind;
            Same.unchanged(what + ", SLIP " + kind + ": " + text, due[kind - 1], () -> saying(text),
                x -> x.slip(2, one));
        }
    }

    private static void slip() {
        // a 1/4, b/a 3/4, a/b 1/2, b 3/8, a&b 3/16, a by itself times b 3/32
        slips("T2: TURNED: the two EVENTS change places", "b/a=1:2", 1, 0, 0, 0);
        slips("T2: BARE: what is behind / is left out", "b/a=3:8", 0, 1, 0, 0);
        slips("T2: ALONE: the product", "a&b=3:32", 0, 0, 1, 0);
        slips("T2: OTHER: 1 less it", "b/a=1:4", 0, 0, 0, 1);
        slips("T2: without / or &, OTHER alone can change it", "a=1:4", 1, 1, 1, 0);
        slips("T2: no TERM that is an EVENT", "1:2=2:4", 1, 1, 1, 1);
        slips("T2: each TERM is changed", "b/a>a/b", 0, 1, 1, 0);
        slips("T2: an & within ( ) stays", "(a&b)=3:16", 1, 1, 1, 0);
        slips("T2: with a | outside it stays", "a&b|a&b=3:16", 1, 1, 1, 0);
        slips("T2: a | within ( ) is a thing", "a&(a|b)=7:64", 0, 0, 1, 0);
        slips("T2: a thing of 5 ( ) in one another", "(((((a)))))&(((((b)))))=3:32", 0, 0, 1, 0);
        slips("T2: three things", "a&!b&a=5:128", 0, 0, 1, 0);
        slips("T2: each GIVEN what is behind /", "a&b/b=1:2", 0, 0, 1, 1);
        slips("T2: an & behind / stays", "a/a&b=1:1", 0, 0, 1, 0);
        Same.unchanged("P24 slip: NOW does not matter", 1, () -> {
            OddsInCourt x = saying("b/a=1:2");
            x.see(3, 0);
            return x;
        }, x -> x.slip(2, 1));
    }

    private static void slipRefused() {
        Same.refused("P24 slip: kind 0", Same::rich, x -> x.slip(0, 0));
        Same.refused("P24 slip: kind 5", Same::rich, x -> x.slip(0, 5));
        Same.refused("P24 slip: kind below 0", Same::rich, x -> x.slip(0, -1));
        Same.refused("P24 slip: none such", Same::rich, x -> x.slip(2, 1));
        Same.refused("P24 slip: below 0", Same::rich, x -> x.slip(-1, 1));
        for (int kind = 1; kind <= 4; kind++) {
            int one = kind;
            Same.refused("P24 slip: one with ~", Same::rich, x -> x.slip(1, one));
        }
        Same.refused("P24 slip: one with ~, OPEN", () -> saying("a~b/!d"), x -> x.slip(2, 1));
        Same.refused("P24 slip: none", OddsInCourt::new, x -> x.slip(0, 1));
    }

    private static void slipOpen() {
        slips("P24 slip: OPEN then, by TURNED alone", "!d/a=1:2", -2, 0, 0, 0);
        slips("P24 slip: OPEN, but for TURNED and BARE", "a/!d=1:4", 0, 1, -2, -2);
        slips("P24 slip: OPEN, the other TERM", "1:4=a/!d", 0, 1, -2, -2);
        slips("P24 slip: OPEN, of an &", "a&b/!d=1:4", 0, 0, -2, -2);
    }

    /** Chances of a, b, c with lower numbers depth, 10 times, 100 times depth; d never is. */
    private static OddsInCourt chain(int depth, String text) {
        OddsInCourt x = new OddsInCourt();
        x.node(0, depth);
        x.set(0, 0, 1);
        for (int i = 1; i < 3; i++) {
            x.node(1 << (i - 1), 10);
            x.set(i, 1, 3);
            x.set(i, 0, 2);
        }
        x.node(0, 1);
        x.chance(0);
        Due.is("said: " + text, 0, Due.say(x, text));
        return x;
    }

    private static void slipTooGreat() {
        // 100000 to the 3rd by 1000 is just 10 to the 18, that of 100003 is above
        Same.unchanged("T3: just 10 to the 18 in ALONE", 0, () -> chain(100000, "a&b&c=1:2"), x -> x.slip(0, 3));
        Same.unchanged("T3: just 10 to the 18 in ALONE, compared", 1,
            () -> chain(100000, "a&b&c>43:99999999"), x -> x.slip(0, 3));
        Same.unchanged("P24 slip: -9", -9, () -> chain(100003, "a&b&c=1:2"), x -> x.slip(0, 3));
        Same.unchanged("P24 slip: -9, the other TERM", -9, () -> chain(100003, "1:2=a&b&c"), x -> x.slip(0, 3));
        Same.unchanged("T3: as soon as, though it would be 0", -9, () -> chain(100003, "a&b&c&d=1:2"),
            x -> x.slip(0, 3));
        Same.unchanged("T3: 0 ahead of all", 1, () -> chain(100003, "d&a&b&c=0:2"), x -> x.slip(0, 3));
        Same.unchanged("P24 slip: the first TERM is TOO GREAT, the other OPEN", -9,
            () -> chain(100003, "a&b&c=a/d"), x -> x.slip(0, 3));
        Same.unchanged("P24 slip: the first TERM is OPEN, the other TOO GREAT", -2,
            () -> chain(100003, "a/d=a&b&c"), x -> x.slip(0, 3));
        Same.unchanged("P24 slip: OPEN ahead of TOO GREAT in one TERM", -2,
            () -> chain(100003, "a&b&c/d=1:2"), x -> x.slip(0, 3));
        for (int kind : new int[] {1, 2, 4}) {
            Same.unchanged("P24 slip: no product in SLIP " + kind, 0, () -> chain(100003, "a&b&c=1:2"),
                x -> x.slip(0, kind));
        }
    }

    private static void is(String what, int due, String text) {
        Same.unchanged(what + ": " + text, due, () -> saying(text), x -> x.which(2));
    }

    private static void which() {
        is("P25 which: it is SO", 0, "b/a=3:4");
        is("P25 which: SO, though a SLIP would be too", 0, "a=1:4");
        is("P25 which: 1 TURNED", 1, "b/a=1:2");
        is("P25 which: 2 BARE", 2, "b/a=3:8");
        is("P25 which: 3 ALONE", 3, "a&b=3:32");
        is("P25 which: 4 OTHER", 4, "b/a=1:4");
        is("P25 which: 5 none", 5, "b/a=1:7");
        is("P25 which: the first SLIP of two", 1, "b/a<3:5");
        is("P25 which: the first of ALONE and OTHER", 3, "a&b<(a&b&c)");
        is("P25 which: a SLIP that is OPEN counts as not", 4, "!d/a=1:1");
        is("P25 which: all others do not either", 5, "!d/a=1:7");
        is("P25 which: OPEN as it is, though BARE would be SO", -2, "a/!d=1:4");
        is("P25 which: OPEN as it is, the other TERM", -2, "1:4=a/!d");
        is("P25 which: with ~, SO", 0, "a~d");
        is("P25 which: with ~, not", 5, "a~b");
        is("P25 which: with ~, OPEN", -2, "a~b/!d");
        Same.unchanged("P25 which: a SLIP that is TOO GREAT counts as not", 4,
            () -> chain(100003, "a&b&c>1:2"), x -> x.which(0));
        Same.unchanged("P25 which: and none else", 5, () -> chain(100003, "a&b&c=1:2"), x -> x.which(0));
        Same.unchanged("P25 which: NOW does not matter", 0, Same::weightless, x -> x.which(0));
    }

    private static void whichRefused() {
        Same.refused("P25 which: none such", Same::rich, x -> x.which(2));
        Same.refused("P25 which: below 0", Same::rich, x -> x.which(-1));
        Same.refused("P25 which: far off", Same::rich, x -> x.which(Integer.MAX_VALUE));
        Same.refused("P25 which: none", OddsInCourt::new, x -> x.which(0));
    }
}
