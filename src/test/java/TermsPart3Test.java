/** 'Terms', part 3: what is seen, shares, luck, draws, slots. */
public final class TermsPart3Test {
    private static final Due due = new Due();
    /** A path 0-1-2-3, home 0, the hole 3, two searchers. */
    private static final String PATH = "N4032e01e12e23";
    /** Edge 9 is home's only one, and leads to the hole. */
    private static final String LAST_EDGE = "N8011e23e34e45e56e67e72e24e35e46e01";

    public static void main(String[] args) {
        seenIsThatSoManyLived();
        seenFromHowAllStandsWhenAsked();
        seenRounds();
        seenLiving();
        seenNeverMoreThanSix();
        seenNoneAtFirst();
        anotherNetLeavesThem();
        which();
        shareOfOneThatLives();
        shareInEachOrderAsLikely();
        shareOneThatHasNotComeDoesNothing();
        shareBehindSixRounds();
        shareIsAFraction();
        luckOfEachPlaceAsLikely();
        luckRounds();
        luckSoManyOrMore();
        drawnTimes();
        drawnSeed();
        drawnWraps();
        drawnStep();
        drawnIfThatCanBe();
        drawnFromHowAllIsNow();
        drawnTogether();
        drawnChangesNothingButTheSeed();
        slotsAreTwo();
        slotsKeepTheHole();
        slotsKeepSearchers();
        slotsKeepEdges();
        slotsKeepMoves();
        theRowIsEmptyWhenOneGoesOn();
        due.end();
    }

    private static void seenIsThatSoManyLived() {
        due.of("SEEN: that, THE HOLE being at an unknown PLACE that has a FATE, behind r ROUNDS [..], v LIVED");
        // At 1: one is swallowed in round 1. At 2: in round 3. At 3: none.
        DarkPlace x = Due.told(PATH);
        int[][] lived = {{2, 1, 1, 1, 1}, {2, 2, 2, 1, 1}, {2, 2, 2, 2, 2}};
        for (int r = 0; r < 5; r++) {
            for (int v = 0; v <= 4; v++) {
                x.see(r, v);
                int fitting = 0;
                for (int place = 1; place <= 3; place++) {
                    fitting |= lived[place - 1][r] == v ? 1 << place : 0;
                }
                due.is("which() by see(" + r + ", " + v + ")", x.which(), fitting);
                x.unsee();
            }
        }
    }

    private static void seenFromHowAllStandsWhenAsked() {
        due.of("from how all stands when that is asked (WHICH)");
        DarkPlace x = Due.told(PATH);
        x.see(1, 1);
        due.is("one round swallows at 1", x.which(), 0b0010);
        Due.rounds(x, 1);
        due.is("behind one round 0 is at 1, and one more swallows nowhere", x.which(), 0);
        Due.rounds(x, 1);
        due.is("behind two rounds one more swallows at 2", x.which(), 0b0100);
        x.undo();
        x.undo();
        due.is("as at first", x.which(), 0b0010);
    }

    /**
     * One searcher with a long way, one round gone: it is out at 1. From now on the hole at 2 swallows it in round 2, at 5 in
     * round 4, at 3 in round 6, at 4 in round 14, at 6 in round 20; at 7 it is known in round 21 (TermsPart2Test has the way).
     */
    private static DarkPlace longWay() {
        DarkPlace x = Due.told("N8061e10e21e31e42e54e65e76e20e50e30");
        x.round();
        return x;
    }

    private static void seenRounds() {
        due.of("behind r ROUNDS (0 to 20)");
        DarkPlace x = longWay();
        due.is("see(-1, 0)", x.see(-1, 0), Due.OUTSIDE);
        due.is("see(21, 0)", x.see(21, 0), Due.OUTSIDE);
        due.is("see(0, 1)", x.see(0, 1), 1);
        due.is("it lives now", x.which(), 0b11111100);
        due.is("see(20, 0)", x.see(20, 0), 2);
        due.is("all but 7 swallow in 20 rounds", x.which(), 0b01111100);
        due.is("see(19, 1)", x.see(19, 1), 3);
        due.is("6 alone in the last one", x.which(), 0b01000000);
        x.unsee();
        x.see(0, 0);
        due.is("it does not lie swallowed now", x.which(), 0);
    }

    private static void seenLiving() {
        due.of("v LIVED (0 to 4)");
        DarkPlace x = Due.told("N5014e01");
        due.is("see(0, -1)", x.see(0, -1), Due.OUTSIDE);
        due.is("see(0, 5)", x.see(0, 5), Due.OUTSIDE);
        due.is("see(1, 4)", x.see(1, 4), 1);
        due.is("four live but where the hole is at 1", x.which(), 0b11100);
        x.unsee();
        due.is("see(1, 3)", x.see(1, 3), 1);
        due.is("three live there", x.which(), 0b00010);
        DarkPlace y = Due.told("N3011e01");
        due.is("see(1, 0)", y.see(1, 0), 1);
        due.is("none lives there", y.which(), 0b010);
    }

    private static void seenNeverMoreThanSix() {
        due.of("never more than 6");
        DarkPlace x = Due.told(PATH);
        for (int seen = 1; seen <= 6; seen++) {
            due.is("see()", x.see(seen == 6 ? 1 : 0, 2), seen);
        }
        due.is("a seventh", x.see(3, 1), Due.FULL);
        due.is("six", x.count(7), 6);
        due.is("the sixth counts, the seventh does not", x.which(), 0b1100);
        due.is("nothing is seen", x.unsee(), 6);
        due.is("room again", x.see(3, 1), 1);
        due.is("only that", x.which(), 0b0110);
    }

    private static void seenNoneAtFirst() {
        due.of("none at first");
        DarkPlace x = new DarkPlace();
        due.is("count", x.count(7), 0);
        due.is("unsee()", x.unsee(), 0);
        due.is("which(): every place that has a fate", x.which(), 0b10);
    }

    private static void anotherNetLeavesThem() {
        due.of("(another NET leaves them)");
        DarkPlace x = new DarkPlace();
        x.see(1, 1);
        x.see(3, 1);
        Due.rewrite(x, PATH);
        x.net();
        due.is("two are seen", x.count(7), 2);
        due.is("by them the hole is at 1", x.which(), 0b0010);
        Due.rewrite(x, "N3011e02");
        x.net();
        due.is("still two", x.count(7), 2);
        due.is("on another net: one lives if the hole is at 1", x.which(), 0b010);
    }

    private static void which() {
        due.of("WHICH: such PLACES (bits) by which all that is SEEN is so.");
        DarkPlace x = Due.told(PATH);
        due.is("nothing is seen: those that have a fate", x.which(), 0b1110);
        x.see(0, 2);
        due.is("all", x.which(), 0b1110);
        x.see(2, 2);
        due.is("not 1", x.which(), 0b1100);
        x.see(3, 1);
        due.is("2 alone", x.which(), 0b0100);
        x.see(1, 2);
        due.is("an earlier one seen later", x.which(), 0b0100);
        x.see(4, 2);
        due.is("none", x.which(), 0);
        x.unsee();
        Due.steps(x, "00");
        due.is("1 has no fate while one is out there", x.which(), 0b1100);
        // Home is 2, and both other places swallow one of two at once.
        DarkPlace y = Due.told("N3212e20e21");
        due.is("place 0 too", y.which(), 0b011);
        y.see(1, 1);
        due.is("by what is seen too", y.which(), 0b011);
        // The last place: home is 0, and only the hole at 7 swallows at once.
        DarkPlace z = Due.told("N8012e07");
        z.see(1, 1);
        due.is("place 7 alone", z.which(), 0b10000000);
    }

    private static void share(DarkPlace x, int searcher, int above, int below) {
        due.is("above of share(" + searcher + ")", x.share(searcher, true), above);
        due.is("below of share(" + searcher + ")", x.share(searcher, false), below);
    }

    private static void shareOfOneThatLives() {
        due.of("SHARE of a SEARCHER that LIVES");
        // A star with the hole at 1, where 0 was swallowed: 1 or 2 alone find both other places, and so do both together.
        DarkPlace x = Due.told("N4013e01e02e03");
        Due.steps(x, "00");
        due.is("of a swallowed one", x.share(0, true), Due.STATE);
        due.is("of a swallowed one, below", x.share(0, false), Due.STATE);
        share(x, 1, 1, 1);
        share(x, 2, 1, 1);
        due.is("of none", x.share(3, true), Due.UNKNOWN);
        // One alone.
        share(Due.told("N3021e01"), 0, 1, 1);
    }

    private static void shareInEachOrderAsLikely() {
        due.of("if those that LIVE come one by one, in each order as likely");
        // A star with the hole at 1: one alone finds 0 places, two or three of them find 2. Who comes second brings 2.
        DarkPlace star = Due.told("N4013e01e02e03");
        for (int searcher = 0; searcher < 3; searcher++) {
            share(star, searcher, 2, 3);
        }
        // Edges 0: 0-1, 1: 1-2 (the hole), 2: 1-3, 3: 3-4, 4: 4-5, 5: 0-3 (safe); 0 is at 3, 1 out at 1 through edge 0, 2 at home.
        // More are visited, by who came: 0: 2; 1: 1; 2: 2; 0, 1: 2; 0, 2: 3; 1, 2: 1; all: 2.
        DarkPlace x = Due.told("N6023e10e21e31e43e54e03");
        Due.steps(x, "05", "05", "10", "05");
        // (2 * 2 + (2 - 1) + (3 - 2) + 2 * (2 - 1)) / 6, and so on.
        share(x, 0, 4, 3);
        share(x, 1, -1, 6);
        share(x, 2, 5, 6);
    }

    private static void shareOneThatHasNotComeDoesNothing() {
        due.of("(one that has not come does nothing)");
        // 0 is out at 1 through edge 0, the way on to 2. 1 can go nowhere till 0 comes back: alone 0 more. 0 alone: back, to 1,
        // out to 2 and back, to 2, out to 3: 2 more. Both: 0 back, 1 to 1; 0 to 1, 1 out to 2; 1 back; to 2; out to 3; back: the
        // hole is 4, so 3 more.
        DarkPlace x = Due.told("N6042e01e12e23");
        Due.steps(x, "00");
        share(x, 1, 1, 2);
        share(x, 0, 5, 2);
    }

    private static void shareBehindSixRounds() {
        due.of("how many more PLACES are VISITED behind 6 ROUNDS from now in the mean when it has come");
        // Out and back three times.
        share(Due.told("N8071e01e02e03e04e05"), 0, 3, 1);
        // It is out already: back, out, back, out, back, out: three; a seventh round would bring a fourth.
        DarkPlace x = Due.told("N8071e01e02e03e04e05");
        Due.steps(x, "00");
        share(x, 0, 3, 1);
        // What is visited by now does not count.
        Due.steps(x, "00", "01", "01");
        share(x, 0, 3, 1);
        Due.steps(x, "02", "02", "03", "03");
        share(x, 0, 1, 1);
    }

    private static void shareIsAFraction() {
        due.of("a FRACTION. (SHARE)");
        // One alone finds 3 places, two or more all five.
        DarkPlace x = Due.told("N8074e01e02e03e04e05");
        for (int searcher = 0; searcher < 4; searcher++) {
            share(x, searcher, 5, 4);
        }
        share(Due.told("N2014"), 3, 0, 1);
    }

    private static void luck(DarkPlace x, int r, int v, int above, int below) {
        due.is("above of luck(" + r + ", " + v + ")", x.luck(r, v, true), above);
        due.is("below of luck(" + r + ", " + v + ")", x.luck(r, v, false), below);
    }

    private static void luckOfEachPlaceAsLikely() {
        due.of("LUCK: THE HOLE at each PLACE that has a FATE as likely");
        // Three places, one of which swallows in the first round, another in the third.
        DarkPlace x = Due.told(PATH);
        luck(x, 1, 2, 2, 3);
        luck(x, 3, 2, 1, 3);
        // Where one is out the hole can not be: two places, one of which swallows.
        Due.rounds(x, 1);
        luck(x, 1, 2, 1, 1);
        luck(x, 2, 2, 1, 2);
        // Known: one place.
        luck(new DarkPlace(), 5, 1, 1, 1);
        luck(Due.told("N2101"), 5, 1, 1, 1);
        // Home is 2, and of 0, 1, 3 only 0 swallows; home is 0, and of 1 to 7 only 7 does.
        luck(Due.told("N4211e20"), 1, 1, 2, 3);
        luck(Due.told("N4211e20"), 1, 0, 1, 1);
        luck(Due.told("N8011e07"), 1, 1, 6, 7);
    }

    private static void luckRounds() {
        due.of("that behind r ROUNDS (0 to 20)");
        DarkPlace x = longWay();
        luck(x, 0, 1, 1, 1);
        luck(x, 1, 1, 1, 1);
        luck(x, 2, 1, 5, 6);
        luck(x, 4, 1, 2, 3);
        luck(x, 6, 1, 1, 2);
        luck(x, 13, 1, 1, 2);
        luck(x, 14, 1, 1, 3);
        luck(x, 19, 1, 1, 3);
        luck(x, 20, 1, 1, 6);
        due.is("luck(21, 1)", x.luck(21, 1, true), Due.OUTSIDE);
        due.is("luck(-1, 1)", x.luck(-1, 1, true), Due.OUTSIDE);
    }

    private static void luckSoManyOrMore() {
        due.of("v (0 to 4) or more LIVE: a FRACTION.");
        // Four searchers, four places, one edge: the hole at 1 swallows one.
        DarkPlace x = Due.told("N5014e01");
        luck(x, 1, 0, 1, 1);
        luck(x, 1, 1, 1, 1);
        luck(x, 1, 3, 1, 1);
        luck(x, 1, 4, 3, 4);
        luck(x, 0, 4, 1, 1);
        due.is("luck(1, 5)", x.luck(1, 5, true), Due.OUTSIDE);
        due.is("luck(1, -1)", x.luck(1, -1, true), Due.OUTSIDE);
        luck(Recipes.noneLives(), 0, 0, 1, 1);
        luck(Recipes.noneLives(), 0, 1, 0, 1);
    }

    private static void drawnTimes() {
        due.of("DRAWN by THE SEED: m times (1 to 60)");
        DarkPlace x = Due.told("N2013");
        due.is("drawn(0)", x.drawn(0), Due.OUTSIDE);
        due.is("drawn(1)", x.drawn(1), 3);
        due.is("drawn(60)", x.drawn(60), 180);
        due.is("drawn(61)", x.drawn(61), Due.OUTSIDE);
        // By the seed 284 the 60th draw is the first of searcher 0 through edge 9; by 223 the 61st is.
        DarkPlace y = Due.told(LAST_EDGE);
        y.seed(284);
        due.is("59 times", y.drawn(59), 59);
        y.seed(284);
        due.is("60 times", y.drawn(60), 59);
        y.seed(223);
        due.is("60 times", y.drawn(60), 60);
        due.is("and the next", y.drawn(1), 0);
    }

    private static void drawnSeed() {
        due.of("x (THE SEED, a long; 0 at first) becomes x * 6364136223846793005L + 1442695040888963407L");
        DarkPlace x = new DarkPlace();
        due.is("at first", x.seed(0), 0);
        x.drawn(1);
        due.is("behind one draw from 0", x.seed(1), 1442695040888963407L);
        x.drawn(1);
        due.is("behind one draw from 1", x.seed(3), 7806831264735756412L);
        x.drawn(60);
        due.is("behind 60 draws from 3", x.seed(3), 5572113803412727455L);
        x.drawn(59);
        x.drawn(1);
        due.is("behind 59 and one more", x.seed(0), 5572113803412727455L);
    }

    private static void drawnWraps() {
        due.of("(64 bits, wrapping)");
        long[] seeds = {-1, 2, Long.MAX_VALUE, Long.MIN_VALUE};
        long[] behind = {-4921441182957829598L, -4275776585127002199L, 4301930853896946210L, -7780676995965812401L};
        for (int i = 0; i < seeds.length; i++) {
            DarkPlace x = new DarkPlace();
            x.seed(seeds[i]);
            x.drawn(1);
            due.is("behind one draw from " + seeds[i], x.seed(0), behind[i]);
        }
    }

    private static void drawnStep() {
        due.of("v is (int) (x >>> 33): SEARCHER v % 4 makes a STEP through EDGE v / 4 % 10");
        // By the seed 17: searcher 0 through edge 0. By -1: 0 through 2. By 0: 3 through 1. By -24: 3 through 9.
        draw("N4012e01e02e03", 17, 1);
        draw("N4022e01e02e03", 17, 2);
        draw("N4031e01e02e03", -1, 0);
        draw("N4021e01e02e03", -1, 1);
        draw("N4024e01e02e03", 0, 3);
        draw("N4014e01e02e03", 0, 4);
        draw("N8014e23e34e45e56e67e72e24e35e46e01", -24, 3);
        draw("N8024e23e34e45e56e67e72e24e35e46e01", -24, 4);
    }

    private static void draw(String net, long seed, int live) {
        DarkPlace x = Due.told(net);
        x.seed(seed);
        due.is("drawn(1) by " + seed + " on " + net, x.drawn(1), live);
    }

    private static void drawnIfThatCanBe() {
        due.of("if that can be");
        // By the seed 17: 0 through 0, 1 through 0, 0 through 5: the second finds edge 0 asked, the third a swallowed one.
        DarkPlace x = Due.told("N4012e01e02e03");
        x.seed(17);
        due.is("only the first can be", x.drawn(3), 3);
        // By -24 it is searcher 3, and there are three; by 17 edge 0, and there is none; known, so that edge can not be.
        draw("N8013e23e34e45e56e67e72e24e35e46e01", -24, 3);
        draw("N8011", 17, 1);
        draw("N2011e01", 17, 1);
    }

    private static void drawnFromHowAllIsNow() {
        due.of("from how all is now");
        // By the seed 22 what falls to searcher 0 of edges 0 and 1 is 0 (the 11th), 0 (30th), 0 (53rd), 1 (56th), 0 (57th):
        // out, back, to 1, and through edge 1 to the hole.
        String net = "N4021e01e12";
        DarkPlace x = Due.told(net);
        x.seed(22);
        due.is("swallowed at the 56th of 60", x.drawn(60), 55);
        // Out already: the 11th leads back, the 30th to 1, the 53rd home: nothing is swallowed.
        DarkPlace y = Due.told(net);
        Due.steps(y, "00");
        y.seed(22);
        due.is("from there none is swallowed", y.drawn(60), 60);
        // At 1 now, by a safe edge: home, to 1, home: none either; at home, by a safe edge: to 1, home, to 1: swallowed.
        DarkPlace z = Due.told(net);
        Due.steps(z, "00", "00");
        z.seed(22);
        due.is("swallowed at the 56th", z.drawn(60), 55);
        DarkPlace w = Recipes.noneLives();
        due.is("none lives now", w.drawn(60), 0);
    }

    private static void drawnTogether() {
        due.of("how many LIVE behind each time, together.");
        // By the seed 0: 3 through 1, 0 through 6, 1 through 4, 0 through 9.
        DarkPlace x = Due.told("N8024e01e02e03e04e05e06e07");
        x.seed(0);
        due.is("one of four is swallowed at the first of four", x.drawn(4), 12);
        DarkPlace y = Due.told("N8074e01e02e03e04e05e06e07");
        y.seed(0);
        due.is("one of four is swallowed at the second", y.drawn(4), 4 + 3 + 3 + 3);
        DarkPlace z = Due.told("N8054e01e02e03e04e05e06e07");
        z.seed(0);
        due.is("one of four is swallowed at the third", z.drawn(4), 4 + 4 + 3 + 3);
        DarkPlace w = Due.told("N8034e01e02e03e04e05e06e07");
        w.seed(0);
        due.is("none is swallowed", w.drawn(4), 16);
    }

    private static void drawnChangesNothingButTheSeed() {
        due.of("(Nothing changes but THE SEED.)");
        for (DarkPlace x : new DarkPlace[] {Recipes.midst(), Recipes.full(), Recipes.noneLives(), Due.told(LAST_EDGE)}) {
            x.seed(5);
            String before = Due.picture(x);
            x.drawn(60);
            due.is("the seed", x.seed(5), -8652285795180421503L);
            due.same("all behind drawn()", Due.picture(x), before);
        }
    }

    private static void slotsAreTwo() {
        due.of("SLOTS to keep in, 0 to 1");
        DarkPlace x = Due.told(PATH);
        due.is("keep(-1)", x.keep(-1), Due.UNKNOWN);
        due.is("keep(2)", x.keep(2), Due.UNKNOWN);
        due.is("keep(0)", x.keep(0), 0);
        Due.steps(x, "00");
        due.is("keep(1)", x.keep(1), 1);
        Due.steps(x, "00");
        due.is("again(0)", x.again(0), 0);
        due.is("again(1)", x.again(1), 1);
        due.is("again(0) once more", x.again(0), 0);
        due.is("again(-1)", x.again(-1), Due.UNKNOWN);
        due.is("again(2)", x.again(2), Due.UNKNOWN);
    }

    private static void slotsKeepTheHole() {
        due.of("keep THE HOLE");
        DarkPlace x = Due.told(PATH);
        x.keep(0);
        x.hide(1);
        x.keep(1);
        x.hide(2);
        x.again(0);
        due.is("as it was told", x.count(5), 3);
        x.again(1);
        due.is("as it was hidden", x.count(5), 1);
        due.is("it swallows there", x.step(0, 0), Due.NONE);
    }

    private static void slotsKeepSearchers() {
        due.of("SEARCHERS with all that they have");
        DarkPlace x = Due.told("N5031e01e12e03");
        x.join();
        Due.steps(x, "00");
        x.keep(0);
        x.join();
        Due.steps(x, "00", "00", "12");
        x.keep(1);
        x.again(0);
        due.is("two of them", x.count(3), 2);
        due.is("there is no third", x.searcher(2, 0), Due.UNKNOWN);
        due.is("0 is at 1", x.searcher(0, 0), 1);
        due.is("out through edge 0", x.searcher(0, 1), 0);
        due.is("1 is at home", x.searcher(1, 0), 0);
        due.is("both live", x.ask(0), 2);
        x.again(1);
        due.is("three of them", x.count(3), 3);
        due.is("0 is at 1", x.searcher(0, 0), 1);
        due.is("not out", x.searcher(0, 1), Due.NONE);
        due.is("1 is swallowed", x.searcher(1, 0), Due.NONE);
        due.is("2 is at home", x.searcher(2, 0), 0);
    }

    private static void slotsKeepEdges() {
        due.of("EDGES as they are");
        DarkPlace x = Due.told("N5041e01e12e03");
        Due.steps(x, "00", "00", "02");
        x.keep(1);
        Due.steps(x, "02", "00", "01");
        x.again(1);
        due.is("safe", x.edge(0, 2), 2);
        due.is("unseen", x.edge(1, 2), 0);
        due.is("asked", x.edge(2, 2), 1);
        due.is("who is out", x.edge(2, 3), 0);
        due.is("visited", x.ask(2), 0b00011);
    }

    private static void slotsKeepMoves() {
        due.of("MOVES (");
        DarkPlace x = Due.told(PATH);
        Due.steps(x, "00", "00");
        due.is("keep(0)", x.keep(0), 2);
        Due.steps(x, "00", "00", "00");
        due.is("moves", x.ask(1), 5);
        due.is("again(0)", x.again(0), 2);
        due.is("moves", x.ask(1), 2);
        Due.steps(x, "00");
        due.is("one more", x.ask(1), 3);
        due.is("again(0)", x.again(0), 2);
    }

    private static void theRowIsEmptyWhenOneGoesOn() {
        due.of("(THE ROW of ACTS is empty when one goes on).");
        DarkPlace x = Due.told(PATH);
        Due.steps(x, "00", "00");
        x.keep(0);
        due.is("keep() leaves the row", x.count(6), 2);
        Due.steps(x, "00");
        x.again(0);
        due.is("the row", x.count(6), 0);
        due.is("nothing to undo", x.undo(), Due.STATE);
        Due.steps(x, "00");
        due.is("the row begins anew", x.count(6), 1);
        due.is("undo()", x.undo(), 0);
        due.is("not further back", x.undo(), Due.STATE);
        due.is("moves", x.ask(1), 2);
        // Where none were kept the row stays.
        Due.steps(x, "00");
        due.is("again(1)", x.again(1), Due.STATE);
        due.is("the row", x.count(6), 1);
    }
}
