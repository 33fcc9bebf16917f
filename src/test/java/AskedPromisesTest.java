/** Promises 13 to 18: ask, fate, judge, see, unsee, which. */
public final class AskedPromisesTest {
    private static final Due due = new Due();
    private static final String PATH = "N4032e01e12e23";

    public static void main(String[] args) {
        ask();
        worst();
        fewest();
        fate();
        fateFromTheMidst();
        judgeSteps();
        judgeWhatIsAsked();
        judgeRefuses();
        see();
        which();
        due.end();
    }

    private static void asks(String when, DarkPlace x, int... want) {
        for (int what = 0; what < want.length; what++) {
            due.is("ask(" + what + ") " + when, x.ask(what), want[what]);
        }
    }

    private static void ask() {
        DarkPlace x = Due.told(PATH);
        asks("at first", x, 2, 0, 0b0001, 0b1110, 0, 1, Due.NONE, 0b1110);
        Due.rounds(x, 1);
        asks("when one is out", x, 2, 1, 0b0001, 0b1110, 0, 2, Due.NONE, 0b1100);
        Due.rounds(x, 1);
        asks("when one came back", x, 2, 3, 0b0011, 0b1100, 0, 2, Due.NONE, 0b1100);
        Due.rounds(x, 2);
        asks("when it is known", x, 2, 6, 0b0111, 0b1000, 1, 3, Due.NONE, 0b1000);
        due.refused("ask(8)", x, () -> x.ask(8), Due.OUTSIDE);
        due.refused("ask(-1)", x, () -> x.ask(-1), Due.OUTSIDE);
        DarkPlace y = Due.told("N2012e01");
        asks("of two places", y, 2, 0, 0b01, 0b10, 1, 1, 1, 0b10);
        DarkPlace z = Due.told("N3011e01");
        Due.steps(z, "00");
        asks("when none lives", z, 0, 1, 0b001, 0b110, 0, 1, Due.NONE, 0b110);
    }

    private static void worst() {
        // A star: one that is swallowed leaves both other edges to the second searcher.
        DarkPlace x = Due.told("N4012e01e02e03");
        due.is("rounds with the hole at 1", x.fate(1, 0), 4);
        due.is("rounds with the hole at 2", x.fate(2, 0), 4);
        due.is("rounds with the hole at 3", x.fate(3, 0), 2);
        due.is("of like ones the least", x.ask(5), 1);
        // A path: with the hole at 2 the place behind it is never come to.
        DarkPlace y = Due.told(PATH);
        Due.rounds(y, 2);
        due.is("rounds with the hole at 2", y.fate(2, 0), Due.NONE);
        due.is("rounds with the hole at 3", y.fate(3, 0), 2);
        due.is("NONE is the worst", y.ask(5), 2);
        DarkPlace z = Due.told("N3011e02");
        due.is("rounds with the hole at 1", z.fate(1, 0), 2);
        due.is("rounds with the hole at 2", z.fate(2, 0), Due.NONE);
        due.is("the greater place is worse", z.ask(5), 2);
        DarkPlace w = Due.told("N3211e20");
        due.is("rounds with the hole at 0", w.fate(0, 0), Due.NONE);
        due.is("rounds with the hole at 1", w.fate(1, 0), 2);
        due.is("place 0 is the worst", w.ask(5), 0);
    }

    private static void fewest() {
        due.is("two places", Due.told("N2011").ask(6), 1);
        due.is("a star", Due.told("N4031e01e02e03").ask(6), 2);
        due.is("a ring", Due.told("N3021e01e12e20").ask(6), 2);
        due.is("three of them", Due.told("N4032e01e23e12e02e13").ask(6), 3);
        due.is("four of them", Due.told("N5031e01e13e23e02e34e12e24").ask(6), 4);
        due.is("a path", Due.told("N3011e01e12").ask(6), Due.NONE);
        due.is("no edges", Due.told("N3011").ask(6), Due.NONE);
        // Home is 2: with the hole at 0 the place behind it is never come to.
        due.is("a path whose first place is 0", Due.told("N3211e20e01").ask(6), Due.NONE);
        // A tree of two edges is known when one of them is safe; one searcher alone is swallowed at the first.
        due.is("two edges", Due.told("N3011e01e02").ask(6), 2);
        DarkPlace x = Due.told("N4034e01e02e03");
        x.hide(1);
        due.is("as at first, wherever the hole is", x.ask(6), 2);
        Due.rounds(x, 1);
        due.is("one is swallowed", x.ask(0), 3);
        due.is("as at first, whoever is swallowed", x.ask(6), 2);
    }

    private static void fate() {
        DarkPlace x = Due.told(PATH);
        int[][] fates = {{Due.NONE, 1, 1}, {Due.NONE, 5, 1}, {4, 6, 2}};
        for (int place = 1; place <= 3; place++) {
            for (int what = 0; what < 3; what++) {
                due.is("fate(" + place + ", " + what + ")", x.fate(place, what), fates[place - 1][what]);
            }
        }
        due.refused("fate(4, 0)", x, () -> x.fate(4, 0), Due.UNKNOWN);
        due.refused("fate(-1, 0)", x, () -> x.fate(-1, 0), Due.UNKNOWN);
        due.refused("fate(4, 3)", x, () -> x.fate(4, 3), Due.UNKNOWN);
        due.refused("fate(3, 3)", x, () -> x.fate(3, 3), Due.OUTSIDE);
        due.refused("fate(3, -1)", x, () -> x.fate(3, -1), Due.OUTSIDE);
        due.refused("fate(0, 3)", x, () -> x.fate(0, 3), Due.OUTSIDE);
        due.refused("fate(0, 0), where it may not be", x, () -> x.fate(0, 0), Due.STATE);
        Due.steps(x, "00");
        due.refused("fate(1, 0), where a searcher is", x, () -> x.fate(1, 0), Due.STATE);
    }

    private static void fateFromTheMidst() {
        DarkPlace x = Due.told(PATH);
        Due.rounds(x, 2);
        due.is("rounds from now on", x.fate(3, 0), 2);
        due.is("moves in all", x.fate(3, 1), 6);
        due.is("living then", x.fate(3, 2), 2);
        due.is("moves in all, with a swallowed one", x.fate(2, 1), 5);
        String before = Due.picture(x);
        x.fate(2, 2);
        due.same("all behind fate()", Due.picture(x), before);
        Due.rounds(x, 2);
        due.is("known now", x.fate(3, 0), 0);
        due.is("moves by now", x.fate(3, 1), 6);

        // One is swallowed at 1 though the hole is asked for at 2: it stays swallowed, its edge asked.
        DarkPlace y = Due.told("N3012e01e02");
        Due.steps(y, "00");
        due.is("known never", y.fate(2, 0), Due.NONE);
        due.is("one more move", y.fate(2, 1), 2);
        due.is("none lives", y.fate(2, 2), 0);
        due.is("known behind two rounds", y.fate(1, 0), 2);
        due.is("three moves", y.fate(1, 1), 3);
        due.is("one lives", y.fate(1, 2), 1);
        Due.rounds(y, 2);
        due.is("known, and one lives", y.fate(1, 0) * 10 + y.fate(1, 2), 1);

        DarkPlace z = Due.told("N3011e01");
        Due.steps(z, "00");
        due.is("none lives: known never", z.fate(1, 0), Due.NONE);
        due.is("none lives: moves", z.fate(1, 1), 1);
        due.is("none lives", z.fate(1, 2), 0);

        // The longest way that was found: one searcher, edges that lead far round.
        DarkPlace w = Due.told("N8061e10e21e31e42e54e65e76e20e50e30");
        due.is("22 rounds", w.fate(7, 0), 22);
        for (int i = 0; i < 2; i++) {
            w.round();
        }
        due.is("20 rounds from then on", w.fate(7, 0), 20);
    }

    private static void judged(DarkPlace x, int n, long row, int want) {
        String before = Due.picture(x);
        due.is("judge(" + n + ", " + row + ")", x.judge(n, row), want);
        due.same("all behind judge(" + n + ", " + row + ")", Due.picture(x), before);
    }

    private static void judgeSteps() {
        DarkPlace x = Due.told(PATH);
        judged(x, 1, 100, Due.NONE);
        judged(x, 1, 101, 0);
        judged(x, 1, 120, 0);
        judged(x, 1, 109, 0);
        judged(x, 1, 190, 0);
        judged(x, 2, 100110, 1);
        judged(x, 2, 100100, Due.NONE);
        judged(x, 3, 100610601, Due.NONE);
        judged(x, 3, 100100602, Due.NONE);
        judged(x, 3, 100100601, 2);
        judged(x, 4, 100100100101L, Due.NONE);
        judged(x, 1, 200, Due.NONE);
        judged(x, 1, 201, 0);
        judged(x, 1, 210, 0);
        judged(x, 4, 200200200200L, Due.NONE);
        judged(x, 4, 200501200511L, Due.NONE);
        judged(x, 4, 200501200510L, 3);
        judged(x, 4, 200200404511L, 2);
        DarkPlace y = Due.told("N3011e01");
        judged(y, 3, 100300200, 2);
        judged(y, 2, 200300, Due.NONE);
        judged(y, 2, 200301, 1);
        Due.steps(y, "00");
        judged(y, 1, 200, 0);
    }

    private static void judgeWhatIsAsked() {
        DarkPlace x = Due.told(PATH);
        judged(x, 1, 302, Due.NONE);
        judged(x, 1, 301, 0);
        judged(x, 1, 312, 0);
        judged(x, 1, 309, 0);
        judged(x, 1, 403, Due.NONE);
        judged(x, 1, 401, Due.NONE);
        judged(x, 1, 400, 0);
        judged(x, 1, 404, 0);
        judged(x, 1, 409, 0);
        judged(x, 1, 413, 0);
        judged(x, 1, 500, Due.NONE);
        judged(x, 1, 510, Due.NONE);
        judged(x, 1, 520, 0);
        judged(x, 1, 590, 0);
        judged(x, 1, 501, 0);
        judged(x, 1, 509, 0);
        judged(x, 1, 600, Due.NONE);
        judged(x, 1, 601, 0);
        judged(x, 1, 602, 0);
        judged(x, 1, 603, 0);
        judged(x, 1, 630, 0);
        judged(x, 1, 690, 0);
        judged(x, 1, 703, 0);
        for (int kind : new int[] {0, 8, 9}) {
            judged(x, 1, kind * 100, 0);
            judged(x, 1, kind * 100 + 11, 0);
        }
        judged(x, 2, 302, 0);
        judged(x, 4, 302403500600L, Due.NONE);
        judged(x, 4, 302403500601L, 3);
        judged(x, 4, 302403501600L, 2);
        judged(x, 4, 302400501600L, 1);
        Due.rounds(x, 4);
        judged(x, 1, 703, Due.NONE);
        judged(x, 1, 702, 0);
        judged(x, 1, 700, 0);
        judged(x, 1, 709, 0);
        judged(x, 1, 713, 0);
        DarkPlace y = Due.told("N3011e01");
        Due.steps(y, "00");
        judged(y, 1, 501, 0);
        judged(y, 1, 500, 0);
        judged(y, 1, 300, Due.NONE);
        judged(y, 1, 601, Due.NONE);
        judged(y, 1, 401, Due.NONE);
    }

    private static void judgeRefuses() {
        DarkPlace x = Due.told(PATH);
        due.refused("judge(0, 0)", x, () -> x.judge(0, 0), Due.OUTSIDE);
        due.refused("judge(5, 0)", x, () -> x.judge(5, 0), Due.OUTSIDE);
        due.refused("judge(-1, 0)", x, () -> x.judge(-1, 0), Due.OUTSIDE);
        due.refused("judge(least int, 0)", x, () -> x.judge(Integer.MIN_VALUE, 0), Due.OUTSIDE);
        due.refused("judge(1, -1)", x, () -> x.judge(1, -1), Due.OUTSIDE);
        due.refused("judge(1, 1000)", x, () -> x.judge(1, 1000), Due.OUTSIDE);
        due.refused("judge(2, 1000000)", x, () -> x.judge(2, 1000000), Due.OUTSIDE);
        due.refused("judge(3, 1000000000)", x, () -> x.judge(3, 1000000000), Due.OUTSIDE);
        due.refused("judge(4, 1000000000000)", x, () -> x.judge(4, 1000000000000L), Due.OUTSIDE);
        due.refused("judge(4, least long)", x, () -> x.judge(4, Long.MIN_VALUE), Due.OUTSIDE);
        judged(x, 1, 999, 0);
        judged(x, 2, 999999, 0);
        judged(x, 3, 999999999, 0);
        judged(x, 4, 999999999999L, 0);
        judged(x, 4, 0, 0);
    }

    private static void see() {
        DarkPlace x = Due.told(PATH);
        due.refused("see(21, 0)", x, () -> x.see(21, 0), Due.OUTSIDE);
        due.refused("see(-1, 0)", x, () -> x.see(-1, 0), Due.OUTSIDE);
        due.refused("see(0, 5)", x, () -> x.see(0, 5), Due.OUTSIDE);
        due.refused("see(0, -1)", x, () -> x.see(0, -1), Due.OUTSIDE);
        for (int seen = 1; seen <= 6; seen++) {
            due.is("see()", x.see(seen == 1 ? 20 : 0, seen == 2 ? 4 : 0), seen);
        }
        due.is("six are seen", x.count(7), 6);
        due.refused("a seventh", x, () -> x.see(0, 0), Due.FULL);
        due.refused("a seventh that is outside", x, () -> x.see(21, 0), Due.OUTSIDE);
        due.refused("a seventh that is outside", x, () -> x.see(0, 5), Due.OUTSIDE);
        due.is("unsee() of six", x.unsee(), 6);
        due.is("unsee() of none", x.unsee(), 0);
        due.is("nothing is seen", x.count(7), 0);
        due.is("one anew", x.see(0, 2), 1);
        due.is("what was seen ahead of unsee() is gone", x.which(), 0b1110);
        Due.rounds(x, 1);
        x.keep(0);
        x.again(0);
        due.is("acts and slots leave it", x.count(7), 1);
    }

    private static void which() {
        DarkPlace x = Due.told(PATH);
        due.is("nothing is seen", x.which(), 0b1110);
        x.see(0, 2);
        due.is("two live now", x.which(), 0b1110);
        x.see(1, 2);
        due.is("two lived behind one round", x.which(), 0b1100);
        x.see(3, 1);
        due.is("one lived behind three", x.which(), 0b0100);
        x.see(20, 1);
        due.is("one lived behind twenty", x.which(), 0b0100);
        x.see(2, 1);
        due.is("nothing fits", x.which(), 0);
        x.unsee();
        x.see(2, 2);
        x.see(20, 2);
        due.is("two lived to the end", x.which(), 0b1000);
        x.unsee();
        x.see(1, 1);
        due.is("one was swallowed at once", x.which(), 0b0010);
        // From how all stands when that is asked: one round later 1 has no fate, two more rounds swallow at 2.
        Due.rounds(x, 1);
        due.is("one round later", x.which(), 0);
        x.unsee();
        x.see(2, 1);
        due.is("two rounds from then on", x.which(), 0b0100);
        x.unsee();
        due.is("a place with a searcher has no fate", x.which(), 0b1100);
        x.see(2, 1);
        Due.rewrite(x, "N3011e02");
        x.net();
        due.is("another net leaves what is seen", x.which(), 0b010);
        x.unsee();
        x.see(2, 0);
        due.is("on another net", x.which(), 0b100);
        x.unsee();
        x.see(0, 0);
        due.is("one lives now", x.which(), 0);
        // Home is 2: the hole may be at 0, the first place.
        DarkPlace y = Due.told("N3212e20e21");
        y.see(1, 1);
        due.is("0 and 1 swallow at once", y.which(), 0b011);
        y.see(0, 1);
        due.is("but two live now", y.which(), 0);
    }
}
