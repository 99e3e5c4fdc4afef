/** Promises 36 to 41: land, mark, rare, day, shifts, enough. */
final class LandTest {
    private LandTest() {
    }

    public static void main(String[] args) {
        sheets();
        refusedSheets();
        rare();
        days();
        shifts();
        byAllLots();
        enough();
        Due.end("LandTest");
    }

    private static void marked(OddsInCourt x, int land, int mark, long up, long low) {
        String call = "mark(" + land + ", " + mark + ")";
        Due.is(call, 0, x.mark(land, mark));
        Due.row(call, x, up, low);
    }

    private static void sheets() {
        OddsInCourt x = new OddsInCourt();
        Due.is("bytes", 0, x.land(1000, 0, 3, 10, 20));
        marked(x, 0, 0, 1, 100);
        marked(x, 0, 2, 1, 20);
        Due.is("behind the sheet", -2, x.mark(0, 3));
        Due.is("the last mark", -2, x.mark(0, 5));
        Due.is("no such mark", -1, x.mark(0, 6));
        Due.is("mark below 0", -1, x.mark(0, -1));
        Due.is("no such land", -1, x.mark(1, 0));
        Due.is("land below 0", -1, x.mark(-1, 0));
        Due.row("the row stays", x, 1, 20);
        Due.is("bytes: lowest bits alone", 1, x.land(1000, 0, 2, 256, 513));
        marked(x, 1, 0, 0, 1);
        marked(x, 1, 1, 1, 1000);
        Due.is("shorts", 2, x.land(40000, 1, 2, 65536 + 32767, 1 - 32768));
        marked(x, 2, 0, 32767, 40000);
        marked(x, 2, 1, 0, 1);
        Due.is("ints", 3, x.land(1000000, 2, 6, 1000000, -200000));
        marked(x, 3, 0, 1, 1);
        marked(x, 3, 5, 0, 1);
        Due.is("a missing one", 4, x.land(5, 3, 3, 1, 1));
        Due.is("nobody was counted", -2, x.mark(4, 0));
        Due.is("an empty one", 5, x.land(5, 2, 0, -9, -9));
        Due.is("nobody was counted", -2, x.mark(5, 0));
        Due.is("missing: n does not matter", 6, x.land(1, 3, -1, -1, -1));
        Due.is("entries that run over", 7, x.land(1000, 0, 2, 0x7fffff7f, 0x81));
        marked(x, 7, 0, 127, 1000);
        marked(x, 7, 1, 0, 1);
        Due.is("a ninth", -1, x.land(10, 0, 1, 1, 1));
        Due.is("eight", 8, x.count(5));
    }

    private static void refusedSheets() {
        OddsInCourt x = new OddsInCourt();
        Due.is("n below 0: bytes", -2, x.land(10, 0, -1, 1, 1));
        Due.is("n below 0: shorts", -2, x.land(10, 1, -1, 1, 1));
        Due.is("n below 0: ints", -2, x.land(10, 2, Integer.MIN_VALUE, 1, 1));
        Due.is("n 7", -1, x.land(10, 2, 7, 1, 1));
        Due.is("kind 4", -1, x.land(10, 4, 1, 1, 1));
        Due.is("kind -1", -1, x.land(10, -1, 1, 1, 1));
        Due.is("no people", -1, x.land(0, 0, 1, 0, 1));
        Due.is("too many people", -1, x.land(1000001, 0, 1, 0, 1));
        Due.is("an entry below 0", -1, x.land(10, 2, 2, 0, -1));
        Due.is("an entry above people", -1, x.land(10, 2, 3, 9, 1));
        Due.is("a byte with its sign", -1, x.land(1000, 0, 1, 128, 1));
        Due.is("a short with its sign", -1, x.land(100000, 1, 1, 32768, 1));
        Due.is("none", 0, x.count(5));
        Due.is("then one", 0, x.land(10, 2, 2, 9, 1));
        marked(x, 0, 1, 1, 1);
    }

    private static void rare() {
        OddsInCourt x = new OddsInCourt();
        Due.is("none", -2, x.rare(0, 0));
        x.land(10, 3, 0, 0, 0);
        Due.is("none counted", -2, x.rare(0, 1));
        x.land(10, 0, 2, 3, 1);
        x.land(100, 0, 1, 30, 0);
        x.land(50, 0, 3, 10, 10);
        x.land(5, 0, 1, 1, 0);
        Due.is("rarest: 10 of 50, the first of equal ones", 3, x.rare(0, 0));
        Due.is("most frequent: 3 of 10, the first", 1, x.rare(0, 1));
        Due.is("of two lands", 1, x.rare(1, 0));
        Due.is("of one", 3, x.rare(2, 0));
        Due.is("of none", -2, x.rare(3, 0));
        Due.is("no such mark", -1, x.rare(6, 0));
        Due.is("mark below 0", -1, x.rare(-1, 0));
        Due.is("what 2", -1, x.rare(0, 2));
        Due.is("what -1", -1, x.rare(0, -1));
        Due.is("no row", 0, x.count(7));
    }

    private static void days() {
        OddsInCourt x = new OddsInCourt();
        Due.is("no days", -1, x.shifts(0));
        Due.is("no days", -1, x.enough(5));
        Due.is("looked at without a death", -1, x.day(true, false, true));
        for (int i = 1; i <= 30; i++) {
            Due.is("day", i, x.day(i % 2 == 0, i % 3 == 0, i % 6 == 0));
        }
        Due.is("a thirty-first", -1, x.day(true, true, true));
        Due.is("days", 30, x.count(6));
    }

    /** Days: on, off, on, off ..; deaths and looked ones as told by letters. */
    private static OddsInCourt roster(String... days) {
        OddsInCourt x = new OddsInCourt();
        for (String d : days) {
            x.day(d.indexOf('o') >= 0, d.indexOf('d') >= 0, d.indexOf('l') >= 0);
        }
        return x;
    }

    private static void shifts() {
        OddsInCourt x = roster("o", "", "odl", "d", "odl", "");
        Due.is("all", 0, x.shifts(0));
        // three deaths on six days, three of them on: 2 or 3 on: (9 + 1) of 20
        Due.row("all", x, 1, 2, 2);
        Due.is("looked at", 0, x.shifts(1));
        Due.row("both on: 3 of 15", x, 1, 5, 2);
        Due.is("what 2", -1, x.shifts(2));
        Due.is("what -1", -1, x.shifts(-1));
        OddsInCourt y = roster("o", "");
        Due.is("no deaths", 0, y.shifts(0));
        Due.row("no deaths", y, 1, 1, 0);
        OddsInCourt z = roster("odl", "odl");
        Due.is("on every day", 0, z.shifts(1));
        Due.row("on every day", z, 1, 1, 2);
        String[] much = new String[30];
        for (int i = 0; i < 30; i++) {
            much[i] = i < 15 ? "odl" : "";
        }
        OddsInCourt w = roster(much);
        Due.is("fifteen of fifteen", 0, w.shifts(1));
        Due.row("1 of 30 over 15", w, 1, 155117520, 15);
    }

    /** All ways of putting deaths on days, one by one. */
    private static void byAllLots() {
        for (int days = 1; days <= 9; days++) {
            for (int on = 0; on <= days; on++) {
                for (int deaths = 0; deaths < 1 << days; deaths += 7) {
                    lots(days, on, deaths);
                }
            }
        }
    }

    private static void lots(int days, int on, int deaths) {
        OddsInCourt x = new OddsInCourt();
        for (int i = 0; i < days; i++) {
            x.day(i < on, (deaths >> i & 1) != 0, false);
        }
        int onBits = (1 << on) - 1;
        int fell = Integer.bitCount(deaths & onBits);
        int all = 0;
        int good = 0;
        for (int lot = 0; lot < 1 << days; lot++) {
            if (Integer.bitCount(lot) == Integer.bitCount(deaths)) {
                all++;
                good += Integer.bitCount(lot & onBits) >= fell ? 1 : 0;
            }
        }
        x.shifts(0);
        Due.is("as all lots tell", good * x.row(1), all * x.row(0));
        Due.is("how many did", fell, x.row(2));
    }

    private static void enough() {
        // looked at: 3 on of 3, days 4 on of 8: 4 of 56
        OddsInCourt x = roster("odl", "odl", "odl", "od", "d", "d", "", "");
        Due.is("1 in 14 as it is", 0, x.enough(14));
        Due.is("one more, not on: 17 of 70", 1, x.enough(13));
        Due.is("one is enough for 1 in 5", 1, x.enough(5));
        Due.is("1 in 4: two, 28 of 56", 2, x.enough(4));
        Due.is("1 in 2: two", 2, x.enough(2));
        Due.is("1 in 1: all of them do not", -2, x.enough(1));
        Due.is("b 0", -1, x.enough(0));
        Due.is("b too great", -1, x.enough(1000001));
        Due.is("the greatest b", 0, x.enough(1000000));
        OddsInCourt y = roster("odl", "od", "");
        Due.is("two days on of three: 2 of 3", 0, y.enough(2));
        Due.is("one more on a day on makes it less", -2, y.enough(1));
        OddsInCourt z = roster("o", "d");
        Due.is("nothing looked at", 0, z.enough(1));
        OddsInCourt w = roster("odl", "odl", "od", "od");
        Due.is("all days on", 0, w.enough(1));
    }
}
