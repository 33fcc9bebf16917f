/** Promises 19 to 25: share, luck, seed, drawn, keep, again, count. */
public final class ChancePromisesTest {
    private static final Due due = new Due();
    private static final String PATH = "N4032e01e12e23";

    public static void main(String[] args) {
        share();
        shareBelowNothing();
        luck();
        seed();
        drawn();
        keepAndAgain();
        slotsRefuse();
        count();
        due.end();
    }

    private static void shares(String what, DarkPlace x, int searcher, int above, int below) {
        String before = Due.picture(x);
        due.is("above of share(" + searcher + ") " + what, x.share(searcher, true), above);
        due.is("below of share(" + searcher + ") " + what, x.share(searcher, false), below);
        due.same("all behind share()", Due.picture(x), before);
    }

    private static void share() {
        shares("of one that sees nothing", new DarkPlace(), 0, 0, 1);
        DarkPlace path = Due.told(PATH);
        shares("on a path", path, 0, 1, 1);
        shares("on a path", path, 1, 1, 1);
        DarkPlace star = Due.told("N4013e01e02e03");
        for (int searcher = 0; searcher < 3; searcher++) {
            shares("on a star", star, searcher, 2, 3);
        }
        // The swallowed one does not come: of the other two each finds both places alone.
        Due.steps(star, "00");
        due.refused("share of a swallowed one", star, () -> star.share(0, true), Due.STATE);
        due.refused("share of a swallowed one, below", star, () -> star.share(0, false), Due.STATE);
        shares("when one is swallowed", star, 1, 1, 1);
        shares("when one is swallowed", star, 2, 1, 1);
        due.refused("share(3)", star, () -> star.share(3, true), Due.UNKNOWN);
        due.refused("share(-1)", star, () -> star.share(-1, false), Due.UNKNOWN);
        DarkPlace one = Due.told("N8071e01e12e23e34e45e56e67");
        // Out, back, on; out, back, on: two places in six rounds.
        shares("of one alone", one, 0, 2, 1);
        DarkPlace four = Due.told("N8074e01e02e03e04e05");
        // Alone three places; two or more of them all five: (4! / 4 * 3 + 4! / 4 * 2) / 4!
        for (int searcher = 0; searcher < 4; searcher++) {
            shares("of four", four, searcher, 5, 4);
        }
    }

    private static void shareBelowNothing() {
        DarkPlace x = Due.told("N6023e10e21e31e43e54e03");
        Due.steps(x, "05", "05", "10", "05");
        shares("that helps most", x, 0, 4, 3);
        shares("that hinders", x, 1, -1, 6);
        shares("that helps", x, 2, 5, 6);
    }

    private static void lucks(DarkPlace x, int r, int v, int above, int below) {
        String before = Due.picture(x);
        due.is("above of luck(" + r + ", " + v + ")", x.luck(r, v, true), above);
        due.is("below of luck(" + r + ", " + v + ")", x.luck(r, v, false), below);
        due.same("all behind luck()", Due.picture(x), before);
    }

    private static void luck() {
        DarkPlace x = Due.told(PATH);
        lucks(x, 0, 0, 1, 1);
        lucks(x, 0, 2, 1, 1);
        lucks(x, 0, 3, 0, 1);
        lucks(x, 1, 2, 2, 3);
        lucks(x, 2, 2, 2, 3);
        lucks(x, 3, 2, 1, 3);
        lucks(x, 3, 1, 1, 1);
        lucks(x, 20, 2, 1, 3);
        lucks(x, 20, 4, 0, 1);
        due.refused("luck(21, 0)", x, () -> x.luck(21, 0, true), Due.OUTSIDE);
        due.refused("luck(-1, 0)", x, () -> x.luck(-1, 0, false), Due.OUTSIDE);
        due.refused("luck(0, 5)", x, () -> x.luck(0, 5, true), Due.OUTSIDE);
        due.refused("luck(0, -1)", x, () -> x.luck(0, -1, false), Due.OUTSIDE);
        Due.rounds(x, 1);
        lucks(x, 2, 2, 1, 2);
        // Four places have a fate, two of them swallow: least terms.
        DarkPlace y = Due.told("N5012e01e02");
        lucks(y, 1, 2, 1, 2);
        lucks(y, 20, 1, 1, 1);
        // Home is 2, and only the hole at 0 swallows.
        DarkPlace z = Due.told("N4211e20");
        lucks(z, 1, 1, 2, 3);
        // Home is 2, and only the hole at 1 swallows.
        DarkPlace w = Due.told("N4211e21");
        lucks(w, 1, 1, 2, 3);
    }

    private static void seed() {
        DarkPlace x = new DarkPlace();
        due.is("seed at first", x.seed(Long.MIN_VALUE), 0);
        due.is("seed", x.seed(Long.MAX_VALUE), Long.MIN_VALUE);
        due.is("seed", x.seed(-1), Long.MAX_VALUE);
        due.is("seed", x.seed(0), -1);
        due.is("drawn(1)", x.drawn(1), 1);
        due.is("seed behind one draw", x.seed(0), 1442695040888963407L);
        x.drawn(4);
        due.is("seed behind four draws", x.seed(0), 7401132627792533940L);
        x.drawn(2);
        x.drawn(2);
        due.is("seed behind two times two draws", x.seed(0), 7401132627792533940L);
    }

    private static void drawn() {
        // By the seed 17 the first draw is searcher 0 through edge 0.
        DarkPlace x = Due.told("N3022e02e01");
        x.seed(17);
        due.is("one is swallowed at the first draw", x.drawn(1), 1);
        due.is("it lives all the same", x.ask(0), 2);
        due.is("no moves", x.ask(1), 0);
        due.is("no acts", x.count(6), 0);
        DarkPlace y = Due.told("N3012e02e01");
        y.seed(17);
        due.is("none is swallowed", y.drawn(1), 2);
        // By the seed 0: 3 through 1, 0 through 6, 1 through 4, 0 through 9; by 9: 3 through 0, 1 through 0, 0 through 8.
        DarkPlace z = Due.told("N8014e01e02e03e04e05e06e07e12e13");
        z.seed(0);
        due.is("all live", z.drawn(4), 16);
        z.seed(9);
        due.is("one is swallowed at the first of three", z.drawn(3), 9);
        DarkPlace w = Due.told("N8024e01e02e03e04e05e06e07e12e13");
        w.seed(0);
        due.is("one is swallowed at the first of four", w.drawn(4), 12);
        due.refused("drawn(0)", w, () -> w.drawn(0), Due.OUTSIDE);
        due.refused("drawn(61)", w, () -> w.drawn(61), Due.OUTSIDE);
        due.refused("drawn(-1)", w, () -> w.drawn(-1), Due.OUTSIDE);
        String before = Due.standing(w);
        w.drawn(60);
        due.same("all but the seed behind drawn()", Due.standing(w), before);
        due.is("sixty times three", sixtyOnTwoPlaces(3), 180);
    }

    private static int sixtyOnTwoPlaces(int searchers) {
        return Due.told("N201" + searchers).drawn(60);
    }

    private static void keepAndAgain() {
        DarkPlace x = Due.told("N5032e01e12e23");
        Due.steps(x, "00");
        String first = Due.standing(x);
        due.is("keep(0)", x.keep(0), 1);
        due.is("keep() is no act", x.count(6), 1);
        due.same("all behind keep()", Due.standing(x), first);
        Due.steps(x, "00", "00", "01");
        x.join();
        x.hide(4);
        String second = Due.standing(x);
        due.is("keep(1)", x.keep(1), 4);
        x.hide(3);
        Due.steps(x, "01", "01", "02");
        due.is("again(0)", x.again(0), 1);
        due.same("all behind again(0)", Due.standing(x), first);
        due.is("the row of acts is empty", x.count(6), 0);
        due.is("nothing to undo", x.undo(), Due.STATE);
        due.is("again(1)", x.again(1), 4);
        due.same("all behind again(1)", Due.standing(x), second);
        Due.rounds(x, 2);
        due.is("undo() behind again(1)", x.undo(), 1);
        due.is("again(1) once more", x.again(1), 4);
        due.same("what is kept stays as it was", Due.standing(x), second);
        due.is("again(0) once more", x.again(0), 1);
        due.is("keep(1) anew", x.keep(1), 1);
        x.round();
        due.is("again(1) anew", x.again(1), 1);
        due.same("what was kept last", Due.standing(x), first);
    }

    private static void slotsRefuse() {
        DarkPlace x = Due.told(PATH);
        due.refused("keep(2)", x, () -> x.keep(2), Due.UNKNOWN);
        due.refused("keep(-1)", x, () -> x.keep(-1), Due.UNKNOWN);
        x.round();
        due.refused("again(2)", x, () -> x.again(2), Due.UNKNOWN);
        due.refused("again(-1)", x, () -> x.again(-1), Due.UNKNOWN);
        due.refused("again(0), none kept", x, () -> x.again(0), Due.STATE);
        x.keep(1);
        due.refused("again(0), the other kept", x, () -> x.again(0), Due.STATE);
        due.is("again(1)", x.again(1), 1);
        due.is("again() leaves the text", x.count(0), PATH.length());
        x.see(1, 1);
        x.seed(5);
        x.again(1);
        due.is("again() leaves what is seen", x.count(7), 1);
        due.is("again() leaves the seed", x.seed(0), 5);
    }

    private static void count() {
        DarkPlace x = Due.told("N6423e01e52e34");
        x.round();
        x.join();
        x.hide(5);
        x.see(0, 0);
        x.see(0, 0);
        x.write('e');
        int[] counts = {15, 6, 3, 4, 4, 5, 3, 2};
        for (int what = 0; what < 8; what++) {
            due.is("count(" + what + ")", x.count(what), counts[what]);
        }
        due.refused("count(8)", x, () -> x.count(8), Due.OUTSIDE);
        due.refused("count(-1)", x, () -> x.count(-1), Due.OUTSIDE);
        due.refused("count(least int)", x, () -> x.count(Integer.MIN_VALUE), Due.OUTSIDE);
    }
}
