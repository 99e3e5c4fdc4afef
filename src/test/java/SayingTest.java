/** Promises 19 to 25: sign, end, say, so, term, slip, which. */
final class SayingTest {
    private SayingTest() {
    }

    public static void main(String[] args) {
        signs();
        grammar();
        numbers();
        long40();
        full();
        so();
        beside();
        terms();
        slips();
        alone();
        which();
        open();
        tooGreat();
        forcedAndSeen();
        manyNodes();
        Due.end("SayingTest");
    }

    /** a 1 in 2, b leans on a: 3 in 4 with it, 1 in 4 without; c by itself 1 in 3. */
    private static OddsInCourt net() {
        OddsInCourt x = new OddsInCourt();
        x.node(0, 2);
        x.node(1, 4);
        x.node(0, 3);
        x.set(0, 0, 1);
        x.set(1, 1, 3);
        x.set(1, 0, 1);
        x.set(2, 0, 1);
        return x;
    }

    private static void signs() {
        OddsInCourt x = net();
        Due.is("highest byte first", 4, x.sign('a' << 24 | '=' << 16 | '1' << 8 | ':'));
        Due.is("four more", 8, x.sign('2' << 24 | 255));
        Due.is("end below 0", false, x.end(-1));
        Due.is("end too far", false, x.end(9));
        Due.is("end where it ends", true, x.end(8));
        Due.is("end", true, x.end(5));
        Due.is("signs", 5, x.count(8));
        Due.is("say", 0, x.say());
        Due.is("empty then", 0, x.count(8));
        Due.is("so", 1, x.so(0));
        for (int i = 1; i <= 15; i++) {
            Due.is("sign", 4 * i, x.sign(-1));
        }
        Due.is("more than 60", -1, x.sign(0));
        Due.is("none came", 60, x.count(8));
        Due.is("end", true, x.end(57));
        Due.is("there would be 61", -1, x.sign(0));
        Due.is("end", true, x.end(56));
        Due.is("60 again", 60, x.sign(0));
        Due.is("end(0)", true, x.end(0));
        Due.is("none", 0, x.count(8));
        x.sign('a' << 24);
        Due.is("empty, though it can't be said", -2, x.say());
        Due.is("empty", 0, x.count(8));
    }

    private static void wrong(String text, int at) {
        OddsInCourt x = net();
        Due.is("say " + text, -1 - at, Due.say(x, text));
        Due.is("no saying: " + text, 0, x.count(2));
        Due.is("empty: " + text, 0, x.count(8));
    }

    private static void right(String text) {
        OddsInCourt x = net();
        Due.is("say " + text, 0, Due.say(x, text));
        Due.is("a saying: " + text, 1, x.count(2));
    }

    private static void grammar() {
        for (String t : new String[] {"a=b", "a<b", "a>b", "a~b", "a~b/c", "a/b=c/a", "!a=!!b", "a&b|c=1:2",
            "(a)=(b)", "!(a|!(b&c))/!c<0:1", "((a)|(b))~(c)/(a&(b))", "1:2=3:4", "1:2>a/b", "a|b|c&a=a",
            "(((((a)))))=1:2", "(((((a))))&(((b))))=1:2"}) {
            right(t);
        }
        wrong("", 0);
        wrong("=", 0);
        wrong("d=1:2", 0);
        wrong("A=1:2", 0);
        wrong(" a=1:2", 0);
        wrong("a =1:2", 1);
        wrong("a=1:2 ", 5);
        wrong("ab=1:2", 1);
        wrong("a!b=1:2", 1);
        wrong("a(b)=1:2", 1);
        wrong("a)=1:2", 1);
        wrong("(a))=1:2", 3);
        wrong("()=1:2", 1);
        wrong("(a", 2);
        wrong("(a=b)", 2);
        wrong("(a/b)=c", 2);
        wrong("(a~b)", 2);
        wrong("a&", 2);
        wrong("a&&b=c", 2);
        wrong("a&|b=c", 2);
        wrong("a/=b", 2);
        wrong("a//b=c", 2);
        wrong("a/b/c=a", 3);
        wrong("a/b~c", 3);
        wrong("a~b=c", 3);
        wrong("a~b~c", 3);
        wrong("a~b/c/a", 5);
        wrong("a~b/c=a", 5);
        wrong("a~1:2", 2);
        wrong("1:2~a", 3);
        wrong("1:2/a=b", 3);
        wrong("a/1:2=b", 2);
        wrong("a=b=c", 3);
        wrong("a=b/c/a", 5);
        wrong("a=b/", 4);
        wrong("a==b", 2);
        wrong("!", 1);
        wrong("!!", 2);
        wrong("((((((a))))))=1:2", 5);
        wrong("(((((a&(b))))))=1:2", 7);
        wrong("a=b\u0000", 3);
        wrong("\u00e1=b", 0);
    }

    private static void numbers() {
        for (String t : new String[] {"0:1=a", "00000000:1=a", "12345678:87654321=a", "1:1=1:1", "a=007:5"}) {
            right(t);
        }
        wrong("1", 1);
        wrong("1=a", 1);
        wrong("1:", 2);
        wrong("1:a", 2);
        wrong("1:0=a", 2);
        wrong("1:01=a", 2);
        wrong(":1=a", 0);
        wrong("123456789:1=a", 8);
        wrong("1:123456789=a", 10);
        wrong("1:2:3=a", 3);
        wrong("1&a=b", 1);
        wrong("a&1:2=b", 2);
        wrong("a=1a", 3);
        wrong("a=-1:2", 2);
        wrong("a=1:2b", 5);
    }

    private static String much(int n) {
        StringBuilder t = new StringBuilder("a");
        while (t.length() < n) {
            t.append("&a");
        }
        return t.toString();
    }

    private static void long40() {
        right(much(35) + "=1:22");
        wrong(much(35) + "=1:222", 40);
        wrong(much(35) + "=1:22b", 40);
        wrong(much(39) + "=1:2", 40);
        wrong(much(41) + "=1:2", 40);
        wrong(much(35) + "=1:b222", 38);
        wrong(much(35) + "=1:22222222222222222", 40);
        wrong(much(33) + "=1:2&222222", 37);
        wrong(much(37) + "=a)bbb", 39);
        right(much(37) + "=!b");
        wrong(much(37) + "=!(b)", 40);
        wrong(much(37) + "=!", 39);
        wrong(much(37) + "=!!", 40);
        wrong("!!!!!!!!!!!!!!!!!!!!!!!!!!!!!!!!!!!!!!!!!!!!!!!!a=b", 40);
        right("!!!!!!!!!!!!!!!!!!!!!!!!!!!!!!!!!!!!!a=b");
    }

    private static void full() {
        OddsInCourt x = net();
        for (int i = 0; i < 12; i++) {
            Due.is("say", i, Due.say(x, "a=1:" + (i + 1)));
        }
        Due.is("the thirteenth", -100, Due.say(x, "a=1:2"));
        Due.is("asked first", -100, Due.say(x, "a="));
        Due.is("twelve", 12, x.count(2));
        Due.is("the empty one too", -100, x.say());
        Due.is("the last stands", 0, x.so(11));
        Due.is("the second is so", 1, x.so(1));
    }

    private static void isSo(String text, int due) {
        OddsInCourt x = net();
        Due.is("say " + text, 0, Due.say(x, text));
        Due.is("so " + text, due, x.so(0));
    }

    private static void so() {
        isSo("a=1:2", 1);
        isSo("a=2:4", 1);
        isSo("a<1:2", 0);
        isSo("a>1:2", 0);
        isSo("a>1:3", 1);
        isSo("1:3<a", 1);
        isSo("b=1:2", 1);
        isSo("b/a=3:4", 1);
        isSo("a/b=3:4", 1);
        isSo("a&b=3:8", 1);
        isSo("a|b=5:8", 1);
        isSo("a|b&c=13:24", 1);
        isSo("(a|b)&c=5:24", 1);
        isSo("!a&b=1:8", 1);
        isSo("!(a&b)=5:8", 1);
        isSo("!!a&!!!c=1:3", 1);
        isSo("a/(a|b)=4:5", 1);
        isSo("c/a&b<c", 0);
        isSo("3:1>2:1", 1);
        isSo("99999999:99999998>1:1", 1);
        isSo("a&!a=0:7", 1);
        OddsInCourt x = net();
        Due.is("none such", -1, x.so(0));
        Due.is("below 0", -1, x.so(-1));
    }

    private static void beside() {
        isSo("a~b", 0);
        isSo("a~c", 1);
        isSo("a&b~c", 1);
        isSo("a~b/c", 0);
        isSo("a~c/b", 1);
        isSo("a~a", 0);
        isSo("a~a/a", 1);
        isSo("a~b/a&!a", -2);
        isSo("a~(b|!b)", 1);
    }

    private static void terms() {
        OddsInCourt x = net();
        Due.say(x, "a&b/a|b=6:4");
        Due.is("first", 0, x.term(0, 0));
        Due.row("3/8 by 5/8", x, 3, 5);
        Due.is("other", 0, x.term(0, 1));
        Due.row("in lowest terms", x, 3, 2);
        Due.say(x, "0:9<c");
        Due.is("naught", 0, x.term(1, 0));
        Due.row("naught", x, 0, 1);
        Due.is("c", 0, x.term(1, 1));
        Due.row("c", x, 1, 3);
        Due.is("no such side", -1, x.term(1, 2));
        Due.is("no such side", -1, x.term(1, -1));
        Due.is("none such", -1, x.term(2, 0));
        Due.is("below 0", -1, x.term(-1, 0));
        Due.say(x, "a~b");
        Due.is("with ~", -1, x.term(2, 0));
        Due.say(x, "a/a&!a=c");
        Due.is("open", -2, x.term(3, 0));
        Due.row("the row stays", x, 1, 3);
        Due.is("the other is not open", 0, x.term(3, 1));
        x.set(2, 0, 2);
        Due.is("as tables are now", 0, x.term(3, 1));
        Due.row("as tables are now", x, 2, 3);
    }

    private static void slipsOf(String text, int turned, int bare, int alone, int other) {
        OddsInCourt x = net();
        Due.is("say " + text, 0, Due.say(x, text));
        int[] due = {turned, bare, alone, other};
        for (int kind = 1; kind <= 4; kind++) {
            Due.is("slip " + kind + " of " + text, due[kind - 1], x.slip(0, kind));
        }
    }

    private static void slips() {
        // a/(a&b) is 1, a&b/a is 3:4
        slipsOf("a/a&b=3:4", 1, 0, 0, 0);
        slipsOf("a/a&b=1:2", 0, 1, 0, 0);
        slipsOf("a&b=1:4", 0, 0, 1, 0);
        slipsOf("c=2:3", 0, 0, 0, 1);
        slipsOf("c=1:3", 1, 1, 1, 0);
        slipsOf("1:2=2:4", 1, 1, 1, 1);
        // both sides change
        slipsOf("a/a&b=b/a", 1, 1, 0, 0);
        slipsOf("c<a", 1, 1, 1, 0);
        slipsOf("a&b/c=a|b/c", 1, 0, 0, 0);
        OddsInCourt x = net();
        Due.is("none such", -1, x.slip(0, 1));
        Due.say(x, "a~b");
        Due.say(x, "a=b");
        Due.is("with ~", -1, x.slip(0, 1));
        Due.is("kind 0", -1, x.slip(1, 0));
        Due.is("kind 5", -1, x.slip(1, 5));
        Due.is("below 0", -1, x.slip(-1, 1));
    }

    private static void aloneIs(String event, String due) {
        OddsInCourt x = net();
        Due.is("say", 0, Due.say(x, event + "=" + due));
        Due.is("alone " + event, 1, x.slip(0, 3));
    }

    private static void alone() {
        aloneIs("a&b", "1:4");
        aloneIs("a&b&c", "1:12");
        aloneIs("a&!b", "1:4");
        aloneIs("!a&!!b&a", "1:8");
        aloneIs("a&(b|c)", "1:3");
        aloneIs("(a&b)&c", "1:8");
        // no & outside of brackets, or a | there: it stays
        aloneIs("(a&b)", "3:8");
        aloneIs("!(a&b)", "5:8");
        aloneIs("a&b|a", "1:2");
        aloneIs("a|a&b", "1:2");
        // each given what is behind /
        aloneIs("b&c/a", "1:4");
        aloneIs("a&b/a|b", "16:25");
        aloneIs("a/b&c", "3:4");
    }

    private static void whichOf(String text, int due) {
        OddsInCourt x = net();
        Due.is("say " + text, 0, Due.say(x, text));
        Due.is("which " + text, due, x.which(0));
    }

    private static void which() {
        whichOf("a=1:2", 0);
        whichOf("a/a&b=3:4", 1);
        whichOf("a/a&b=1:2", 2);
        whichOf("a&b=1:4", 3);
        whichOf("c=2:3", 4);
        whichOf("c=3:4", 5);
        whichOf("a~c", 0);
        whichOf("a~b", 5);
        whichOf("a~b/a&!a", -2);
        whichOf("a/a&!a=1:2", -2);
        // turned it is open, and counts as not
        whichOf("a&!a/b>1:2", 4);
        whichOf("a&!a/b=3:16", 3);
        OddsInCourt x = net();
        Due.is("none such", -1, x.which(0));
        Due.is("below 0", -1, x.which(-1));
    }

    private static void open() {
        OddsInCourt x = net();
        Due.say(x, "a/b&!b=1:2");
        Due.is("so", -2, x.so(0));
        Due.is("turned: given a", 0, x.slip(0, 1));
        Due.is("bare", 1, x.slip(0, 2));
        Due.is("alone", -2, x.slip(0, 3));
        Due.is("other", -2, x.slip(0, 4));
        Due.say(x, "1:2=a/b&!b");
        Due.is("the other side", -2, x.so(1));
        Due.say(x, "a&!a/a=1:2");
        Due.is("as said", 0, x.so(2));
        Due.is("turned it is open", -2, x.slip(2, 1));
    }

    /** 9999991 is a prime: three of it multiplied are beyond 10 to the 18. */
    private static void tooGreat() {
        OddsInCourt x = new OddsInCourt();
        x.node(0, 9999991);
        x.node(0, 10);
        x.set(0, 0, 2);
        x.set(1, 0, 3);
        Due.say(x, "a&a=1:2");
        Due.is("two are not too great", 0, x.slip(0, 3));
        Due.say(x, "a&a&a<1:2");
        Due.is("the third is", -9, x.slip(1, 3));
        Due.is("as said it is so", 0, x.which(1));
        Due.say(x, "a&a&a=1:2");
        Due.is("counts as not", 5, x.which(2));
        Due.say(x, "a&a&a=a/b&!b");
        Due.is("the first tells", -9, x.slip(3, 3));
        Due.say(x, "a/b&!b=a&a&a");
        Due.is("the first tells", -2, x.slip(4, 3));
        Due.say(x, "a&a&a&!(a|!a)=0:1");
        Due.is("as soon as it is, whatever comes", -9, x.slip(5, 3));
        Due.say(x, "a&!(a|!a)&a&a=0:1");
        Due.is("naught ahead keeps it small", 1, x.slip(6, 3));
    }

    private static void forcedAndSeen() {
        OddsInCourt x = net();
        Due.say(x, "a=1:2");
        x.see(0, 1);
        Due.is("what is seen does not matter", 1, x.so(0));
        x.force(0, 1);
        Due.is("what is forced does", 0, x.so(0));
        Due.is("the first slip by which 1 is 1:2", 5, x.which(0));
    }

    /** Letters above f live in whole words of ways. */
    private static void manyNodes() {
        OddsInCourt x = new OddsInCourt();
        for (int i = 0; i < 10; i++) {
            x.node(0, 6);
            x.set(i, 0, i < 6 ? 1 : 2);
        }
        Due.is("j", 0, Due.say(x, "j/a&g=1:3"));
        Due.is("k", -1, Due.say(x, "k=1:3"));
        Due.is("ten letters", 1, Due.say(x, "a&b&c&d&e&f&g&h&i&j=16:60466176"));
        Due.is("j is so", 1, x.so(0));
        Due.is("all at once", 1, x.so(1));
        OddsInCourt y = net();
        Due.is("d is not there", -1, Due.say(y, "d=1:2"));
        Due.is("a", 0, Due.say(y, "!a=1:2"));
        y.node(0, 2);
        Due.is("d is there now", 1, Due.say(y, "d=0:1"));
        Due.is("d", 1, y.so(1));
        Due.is("a stands", 1, y.so(0));
    }
}
