/** Promises 36 to 41: each sentence that names an edge. */
final class EdgeLandTest {
    private EdgeLandTest() {
    }

    public static void main(String[] args) {
        people();
        kinds();
        entries();
        bytesAndShorts();
        wrap();
        belowNone();
        landRefused();
        eight();
        mark();
        markRefused();
        rare();
        rareRefused();
        day();
        dayRefused();
        shifts();
        shiftsRefused();
        enough();
        enoughRefused();
        Due.end("EdgeLandTest");
    }

    // ---- P36

    private static void people() {
        Due.is("P36 land: 1 of people", 2, Same.rich().land(1, 2, 1, 1, 0));
        Due.is("P36 land: 1000000 of people", 2, Same.rich().land(1000000, 2, 1, 1000000, 0));
        Same.refused("P36 land: 0 of people", Same::rich, x -> x.land(0, 2, 1, 0, 0));
        Same.refused("P36 land: people below 0", Same::rich, x -> x.land(-1, 2, 1, 0, 0));
        Same.refused("P36 land: 1000001 of people", Same::rich, x -> x.land(1000001, 2, 1, 0, 0));
        Same.refused("P36 land: no people, a missing sheet", Same::rich, x -> x.land(0, 3, 1, 0, 0));
    }

    private static OddsInCourt told(int people, int kind, int n, int f, int step) {
        OddsInCourt x = new OddsInCourt();
        Due.is("P36 land: its number", 0, x.land(people, kind, n, f, step));
        Due.is("P36 land: counted", 1, x.count(5));
        Due.is("P36 land: no ROW", 0, x.count(7));
        return x;
    }

    private static void kinds() {
        for (int kind = 0; kind < 3; kind++) {
            for (int n = 0; n <= 6; n++) {
                OddsInCourt x = told(100, kind, n, 1, 2);
                for (int mark = 0; mark < 6; mark++) {
                    Due.is("P36 land: kind " + kind + ", n " + n + ", MARK " + mark, mark < n ? 0 : -2,
                        x.mark(0, mark));
                }
            }
        }
        for (int n : new int[] {0, 3, 6, -1, Integer.MIN_VALUE}) {
            OddsInCourt x = told(100, 3, n, -5, -5);
            Due.is("P36 land: a missing one, n " + n, -2, x.mark(0, 0));
            Due.is("P36 land: a missing one, the last MARK", -2, x.mark(0, 5));
        }
        Same.refused("P36 land: kind -1", Same::rich, x -> x.land(10, -1, 1, 1, 1));
        Same.refused("P36 land: kind 4", Same::rich, x -> x.land(10, 4, 1, 1, 1));
        Same.refused("P36 land: kind 4, n below 0", Same::rich, x -> x.land(10, 4, -1, 1, 1));
    }

    private static void isMark(String what, OddsInCourt x, int mark, long up, long low) {
        Due.is(what, 0, x.mark(0, mark));
        Due.row(what, x, up, low);
    }

    private static void entries() {
        OddsInCourt x = told(10, 2, 6, 10, -2);
        isMark("P36 land: an entry of all people", x, 0, 1, 1);
        isMark("P36 land: f and step", x, 1, 4, 5);
        isMark("P36 land: an entry of 0", x, 5, 0, 1);
        for (int kind = 0; kind < 3; kind++) {
            int one = kind;
            Same.refused("P36 land: an entry above people, kind " + kind, Same::rich, y -> y.land(10, one, 1, 11, 0));
            Same.refused("P36 land: the last above people, kind " + kind, Same::rich, y -> y.land(10, one, 6, 6, 1));
            Same.refused("P36 land: an entry below 0, kind " + kind, Same::rich, y -> y.land(10, one, 1, -1, 0));
            Same.refused("P36 land: the last below 0, kind " + kind, Same::rich, y -> y.land(10, one, 6, 4, -1));
        }
        Due.is("P36 land: an entry that is not told does not matter", 2, Same.rich().land(10, 2, 5, 6, 1));
        Due.is("P36 land: nor f, if n is 0", 2, Same.rich().land(10, 2, 0, -1, 0));
    }

    private static void bytesAndShorts() {
        isMark("P36 land: byte 127", told(1000, 0, 1, 127, 0), 0, 127, 1000);
        isMark("P36 land: byte 256 is 0", told(1000, 0, 1, 256, 0), 0, 0, 1);
        isMark("P36 land: byte 383 is 127", told(1000, 0, 1, 383, 0), 0, 127, 1000);
        isMark("P36 land: byte -129 is 127", told(1000, 0, 1, -129, 0), 0, 127, 1000);
        isMark("P36 land: the step goes on ahead of the cut", told(1000, 0, 2, 100, 200), 1, 11, 250);
        isMark("P36 land: short 32767", told(100000, 1, 1, 32767, 0), 0, 32767, 100000);
        isMark("P36 land: short 65536 is 0", told(100000, 1, 1, 65536, 0), 0, 0, 1);
        isMark("P36 land: short -32769 is 32767", told(100000, 1, 1, -32769, 0), 0, 32767, 100000);
        isMark("P36 land: short 256 is 256", told(100000, 1, 1, 256, 0), 0, 8, 3125);
        isMark("P36 land: int 32768", told(100000, 2, 1, 32768, 0), 0, 1024, 3125);
        isMark("P36 land: int 65536", told(100000, 2, 1, 65536, 0), 0, 2048, 3125);
        Same.refused("P36 land: byte 128 is -128", Same::rich, x -> x.land(1000, 0, 1, 128, 0));
        Same.refused("P36 land: byte 255 is -1", Same::rich, x -> x.land(1000, 0, 1, 255, 0));
        Same.refused("P36 land: short 32768 is -32768", Same::rich, x -> x.land(100000, 1, 1, 32768, 0));
        Same.refused("P36 land: short 65535 is -1", Same::rich, x -> x.land(100000, 1, 1, 65535, 0));
    }

    /** f and steps are added with wrap-around, as Java's int. */
    private static void wrap() {
        OddsInCourt x = told(1000, 0, 2, 0x7fffff7f, 0x81);
        isMark("P36 land: ahead of the wrap-around, bytes", x, 0, 127, 1000);
        isMark("P36 land: behind the wrap-around, bytes", x, 1, 0, 1);
        OddsInCourt y = told(100000, 1, 2, 0x7fff7fff, 0x8002);
        isMark("P36 land: ahead of the wrap-around, shorts", y, 0, 32767, 100000);
        isMark("P36 land: behind the wrap-around, shorts", y, 1, 1, 100000);
        // five times the step comes round to 0x80000005
        OddsInCourt z = told(100, 0, 6, 5, 0x80000001);
        isMark("P36 land: a step below 0 that wraps around", z, 5, 1, 10);
        Same.refused("P36 land: ints that wrap around below 0", Same::rich,
            w -> w.land(1000000, 2, 2, 5, Integer.MAX_VALUE));
        Same.refused("P36 land: ints that wrap around, there and back", Same::rich,
            w -> w.land(1000000, 2, 3, 5, Integer.MIN_VALUE));
    }

    private static void belowNone() {
        for (int kind = 0; kind < 3; kind++) {
            int one = kind;
            Same.unchanged("P36 land: -2, n -1, kind " + kind, -2, Same::rich, x -> x.land(10, one, -1, 1, 1));
            Same.unchanged("P36 land: -2, n far below 0, kind " + kind, -2, Same::rich,
                x -> x.land(10, one, Integer.MIN_VALUE, 1, 1));
        }
    }

    private static void landRefused() {
        for (int kind = 0; kind < 3; kind++) {
            int one = kind;
            Same.refused("P36 land: n 7, kind " + kind, Same::rich, x -> x.land(10, one, 7, 1, 0));
            Same.refused("P36 land: far-off n, kind " + kind, Same::rich,
                x -> x.land(10, one, Integer.MAX_VALUE, 1, 0));
        }
    }

    private static OddsInCourt eightLands() {
        OddsInCourt x = Same.rich();
        for (int i = 2; i < 8; i++) {
            Due.is("T3: LANDS 0 ..", i, x.land(10 * i, 0, i - 1, 1, 1));
        }
        return x;
    }

    private static void eight() {
        Due.is("T3: at most 8 LANDS", 8, eightLands().count(5));
        Same.refused("P36 land: 8", EdgeLandTest::eightLands, x -> x.land(10, 0, 1, 1, 1));
        Same.refused("P36 land: 8, a missing one", EdgeLandTest::eightLands, x -> x.land(10, 3, 1, 1, 1));
    }

    // ---- P37, P38

    private static void mark() {
        Same.tells("P37 mark: the first", 0, Same::rich, x -> x.mark(0, 0), 3, 10);
        Same.tells("P37 mark: in lowest terms", 0, Same::rich, x -> x.mark(0, 1), 2, 5);
        Same.unchanged("P37 mark: -2, the first not counted", -2, Same::rich, x -> x.mark(0, 2));
        Same.unchanged("P37 mark: -2, the last MARK", -2, Same::rich, x -> x.mark(0, 5));
        Same.unchanged("P37 mark: -2, a missing sheet", -2, Same::rich, x -> x.mark(1, 0));
        Same.tells("P37 mark: the last MARK of the last LAND", 0, EdgeLandTest::eightLands, x -> x.mark(7, 5), 3, 35);
    }

    private static void markRefused() {
        Same.refused("P37 mark: MARK 6", Same::rich, x -> x.mark(0, 6));
        Same.refused("P37 mark: MARK below 0", Same::rich, x -> x.mark(0, -1));
        Same.refused("P37 mark: no such LAND", Same::rich, x -> x.mark(2, 0));
        Same.refused("P37 mark: LAND below 0", Same::rich, x -> x.mark(-1, 0));
        Same.refused("P37 mark: the ninth LAND", EdgeLandTest::eightLands, x -> x.mark(8, 0));
        Same.refused("P37 mark: no LANDS", OddsInCourt::new, x -> x.mark(0, 0));
    }

    /** MARK 0: not counted, 3/10, 2/10, 30/100, 20/100. MARK 1: of the LANDS 1, 2: 4/10, 3/10. MARK 5: LAND 2. */
    private static OddsInCourt lands() {
        OddsInCourt x = new OddsInCourt();
        x.land(10, 3, 0, 0, 0);
        x.land(10, 0, 2, 3, 1);
        x.land(10, 0, 6, 2, 1);
        x.land(100, 0, 1, 30, 0);
        x.land(100, 0, 1, 20, 0);
        x.list(2, 1, 1, 2);
        return x;
    }

    private static void rare() {
        Same.unchanged("P38 rare: rarest, of equal ones the first", 2, EdgeLandTest::lands, x -> x.rare(0, 0));
        Same.unchanged("P38 rare: most frequent, of equal ones the first", 1, EdgeLandTest::lands,
            x -> x.rare(0, 1));
        Same.unchanged("P38 rare: of two", 2, EdgeLandTest::lands, x -> x.rare(1, 0));
        Same.unchanged("P38 rare: of two, most frequent", 1, EdgeLandTest::lands, x -> x.rare(1, 1));
        Same.unchanged("P38 rare: the last MARK, of one", 2, EdgeLandTest::lands, x -> x.rare(5, 0));
        Same.unchanged("P38 rare: the last MARK, of one, most frequent", 2, EdgeLandTest::lands,
            x -> x.rare(5, 1));
        Same.unchanged("P38 rare: -2, none counted it", -2, Same::rich, x -> x.rare(2, 0));
        Same.unchanged("P38 rare: -2, none, most frequent", -2, Same::rich, x -> x.rare(5, 1));
        Same.unchanged("P38 rare: -2, no LANDS", -2, OddsInCourt::new, x -> x.rare(0, 0));
        OddsInCourt x = new OddsInCourt();
        x.land(1000000, 2, 1, 333333, 0);
        x.land(999999, 2, 1, 333333, 0);
        x.land(999998, 2, 1, 333332, 0);
        Due.is("P38 rare: hardly rarer", 2, x.rare(0, 0));
        Due.is("P38 rare: hardly more frequent", 1, x.rare(0, 1));
        // MARK 0: 3 of 10, then 1 of 20, 30, .. 70; MARK 5: of the last alone
        Same.unchanged("P38 rare: of 8, the last", 7, EdgeLandTest::eightLands, y -> y.rare(0, 0));
        Same.unchanged("P38 rare: of 8, the first", 0, EdgeLandTest::eightLands, y -> y.rare(0, 1));
        Same.unchanged("P38 rare: of 8, one counted it", 7, EdgeLandTest::eightLands, y -> y.rare(5, 1));
    }

    private static void rareRefused() {
        Same.refused("P38 rare: MARK 6", Same::rich, x -> x.rare(6, 0));
        Same.refused("P38 rare: MARK below 0", Same::rich, x -> x.rare(-1, 0));
        Same.refused("P38 rare: what 2", Same::rich, x -> x.rare(0, 2));
        Same.refused("P38 rare: what -1", Same::rich, x -> x.rare(0, -1));
        Same.refused("P38 rare: MARK 6, no LANDS", OddsInCourt::new, x -> x.rare(6, 0));
    }

    // ---- P39 to P41

    /** Days by letters: o ON, d a death, l LOOKED at. */
    private static OddsInCourt days(String... days) {
        OddsInCourt x = new OddsInCourt();
        for (int i = 0; i < days.length; i++) {
            String d = days[i];
            Due.is("P39 day: how many", i + 1, x.day(d.contains("o"), d.contains("d"), d.contains("l")));
        }
        x.list(2, 1, 1, 2);
        return x;
    }

    private static OddsInCourt thirty() {
        String[] days = new String[30];
        for (int i = 0; i < 30; i++) {
            days[i] = i % 3 == 0 ? "od" : i % 5 == 0 ? "dl" : i % 2 == 0 ? "o" : "";
        }
        return days(days);
    }

    private static void day() {
        Due.is("P39 day: each kind of DAY", 6, days("", "o", "d", "od", "dl", "odl").count(6));
        Due.is("P39 day: the thirtieth", 30, thirty().count(6));
        Due.is("P39 day: the ROW stays", 4, Same.rich().count(7));
        OddsInCourt x = Same.rich();
        x.day(true, true, true);
        Due.is("P39 day: the ROW stays then", 4, x.count(7));
    }

    private static void dayRefused() {
        Same.refused("P39 day: LOOKED at without a death, ON", Same::rich, x -> x.day(true, false, true));
        Same.refused("P39 day: LOOKED at without a death, not ON", Same::rich, x -> x.day(false, false, true));
        for (int bits = 0; bits < 8; bits++) {
            int on = bits;
            Same.refused("P39 day: 30, " + bits, EdgeLandTest::thirty,
                x -> x.day((on & 1) != 0, (on & 2) != 0, (on & 4) != 0));
        }
    }

    private static void shifts() {
        Same.tells("P40 shifts: no deaths", 0, () -> days("o", ""), x -> x.shifts(0), 1, 1, 0);
        Same.tells("P40 shifts: none LOOKED at", 0, () -> days("od", "d"), x -> x.shifts(1), 1, 1, 0);
        Same.tells("P40 shifts: a death each DAY", 0, () -> days("od", "d", "d"), x -> x.shifts(0), 1, 1, 1);
        Same.tells("P40 shifts: no DAY ON", 0, () -> days("d", "", ""), x -> x.shifts(0), 1, 1, 0);
        Same.tells("P40 shifts: each DAY ON", 0, () -> days("od", "o", "odl"), x -> x.shifts(0), 1, 1, 2);
        Same.tells("P40 shifts: one DAY, one death", 0, () -> days("odl"), x -> x.shifts(1), 1, 1, 1);
        Same.tells("P40 shifts: as many", 0, () -> days("od", "o", "", ""), x -> x.shifts(0), 1, 2, 1);
        // two deaths on four days, two of them ON: one or both ON 5 of 6, both 1 of 6
        Same.tells("P40 shifts: or more", 0, () -> days("od", "o", "d", ""), x -> x.shifts(0), 5, 6, 1);
        Same.tells("P40 shifts: just as many as can be", 0, () -> days("od", "od", "", ""), x -> x.shifts(0), 1, 6, 2);
        Same.tells("P40 shifts: those LOOKED at alone", 0, () -> days("odl", "od", "d", ""), x -> x.shifts(1),
            1, 2, 1);
        Same.tells("P40 shifts: 15 on 15 of 30", 0, () -> half(0), x -> x.shifts(1), 1, 155117520, 15);
        Same.tells("P40 shifts: 17 on 30", 0, () -> half(2), x -> x.shifts(0), 1, 1140570, 15);
        Same.tells("P40 shifts: a death on each of 30", 0, () -> half(15), x -> x.shifts(0), 1, 1, 15);
    }

    private static void shiftsRefused() {
        Same.refused("P40 shifts: no DAYS", OddsInCourt::new, x -> x.shifts(0));
        Same.refused("P40 shifts: no DAYS, those LOOKED at", OddsInCourt::new, x -> x.shifts(1));
        Same.refused("P40 shifts: what 2", Same::rich, x -> x.shifts(2));
        Same.refused("P40 shifts: what -1", Same::rich, x -> x.shifts(-1));
        Same.refused("P40 shifts: a DAY that was refused is none", () -> {
            OddsInCourt x = new OddsInCourt();
            x.day(true, false, true);
            return x;
        }, x -> x.shifts(0));
    }

    /** LOOKED at: 3 on 4 DAYS ON of 8: 4 of 56, 1 in 14. Not LOOKED at: two not ON, one ON. */
    private static OddsInCourt looked() {
        return days("odl", "odl", "odl", "od", "d", "d", "", "");
    }

    private static void enough() {
        Same.unchanged("P41 enough: just 1 in b is not below", 0, EdgeLandTest::looked, x -> x.enough(14));
        // one more, not ON: 3 or 4 of 4: 17 of 70
        Same.unchanged("P41 enough: below 1 in b", 1, EdgeLandTest::looked, x -> x.enough(13));
        // both: 3 or 4 of 5: 28 of 56
        Same.unchanged("P41 enough: just 1 in 2 by two", 2, EdgeLandTest::looked, x -> x.enough(2));
        Same.unchanged("P41 enough: the fewest", 2, EdgeLandTest::looked, x -> x.enough(3));
        Same.unchanged("P41 enough: -2, all of them do not", -2, EdgeLandTest::looked, x -> x.enough(1));
        Same.unchanged("P41 enough: b 1, none needed", 0, () -> days("o", "d"), x -> x.enough(1));
        Same.unchanged("P41 enough: b 1000000", 0, EdgeLandTest::looked, x -> x.enough(1000000));
        // one on 1 DAY ON of 4; of the others the one not ON is counted first, then it is 1 of 2
        Same.unchanged("P41 enough: the ones of DAYS not ON first", 1, () -> days("odl", "", "d", ""),
            x -> x.enough(2));
        Same.unchanged("P41 enough: -2, others, of DAYS ON, make it less", -2, () -> days("odl", "od", ""),
            x -> x.enough(1));
        Same.unchanged("P41 enough: nothing to count more", -2, () -> days("odl", ""), x -> x.enough(1));
        Same.unchanged("P41 enough: nothing to count more, nor needed", 0, () -> days("odl", ""), x -> x.enough(2));
        // LOOKED at: two ON, one not, on 3 DAYS ON of 8: 16 of 56; with one more 35 of 70, with two 40 of 56
        Same.unchanged("P41 enough: some LOOKED at not ON, none more", 0, EdgeLandTest::both, x -> x.enough(4));
        Same.unchanged("P41 enough: some LOOKED at not ON, one more", 1, EdgeLandTest::both, x -> x.enough(3));
        Same.unchanged("P41 enough: some LOOKED at not ON, just 1 in 2", 1, EdgeLandTest::both, x -> x.enough(2));
        Same.unchanged("P41 enough: some LOOKED at not ON, not enough", -2, EdgeLandTest::both, x -> x.enough(1));
        Same.unchanged("P41 enough: all of DAYS not ON are LOOKED at", -2, () -> days("odl", "od", "dl", ""),
            x -> x.enough(1));
        // 15 on 15 ON: 1 of 155117520; 16: 1 in 9694845; 17: 1 in 1140570; 18: 455 of 86493225
        Same.unchanged("P41 enough: of 30 DAYS, just too few", -2, () -> half(2), x -> x.enough(1000000));
        Same.unchanged("P41 enough: of 30 DAYS", 3, () -> half(3), x -> x.enough(1000000));
    }

    private static OddsInCourt both() {
        return days("odl", "dl", "odl", "d", "o", "d", "", "");
    }

    /** Thirty DAYS: 15 deaths LOOKED at on 15 DAYS ON, and some more deaths on the others. */
    private static OddsInCourt half(int more) {
        String[] half = new String[30];
        for (int i = 0; i < 30; i++) {
            half[i] = i < 15 ? "odl" : i < 15 + more ? "d" : "";
        }
        return days(half);
    }

    private static void enoughRefused() {
        Same.refused("P41 enough: b 0", Same::rich, x -> x.enough(0));
        Same.refused("P41 enough: b below 0", Same::rich, x -> x.enough(-1));
        Same.refused("P41 enough: b 1000001", Same::rich, x -> x.enough(1000001));
        Same.refused("P41 enough: far-off b", Same::rich, x -> x.enough(Integer.MAX_VALUE));
        Same.refused("P41 enough: no DAYS", OddsInCourt::new, x -> x.enough(1));
        Same.refused("P41 enough: no DAYS, b 0", OddsInCourt::new, x -> x.enough(0));
    }
}
