/** 'Terms', part 2: fate, the worst place, the fewest searchers, doings judged. */
public final class TermsPart2Test {
    private static final Due due = new Due();
    /** A path 0-1-2-3, home 0, the hole 3, two searchers. */
    private static final String PATH = "N4032e01e12e23";
    /** One searcher that has a long way: edges 0: 0-1, 1: 1-2, 2: 1-3, 3: 2-4, 4: 4-5, 5: 5-6, 6: 6-7, 7: 0-2, 8: 0-5, 9: 0-3. */
    private static final String LONG_WAY = "N8061e10e21e31e42e54e65e76e20e50e30";

    public static void main(String[] args) {
        nothingIsChanged();
        fateOfAPlace();
        fateAsIfTheHoleWereThere();
        fateFromNowOn();
        fateTillItIsKnown();
        fateKnownNow();
        fateNotBehindSixty();
        fateMovesInAll();
        fateHowManyLive();
        worstIsThatWithMostRounds();
        worstNoneIsMoreThanAny();
        worstOfLikeOnesTheLeast();
        worstOfNone();
        fewestOneToFour();
        fewestAsAtFirst();
        fewestWhereverTheHoleWere();
        fewestNone();
        judgedOneToFourDoings();
        judgedTheFirstIsTheHighest();
        judgedStep();
        judgedRound();
        judgedHowManyLive();
        judgedMayBe();
        judgedLivesAndIsThere();
        judgedEdge();
        judgedKnown();
        judgedOtherFigures();
        judgedTheFirstThatCanNotBe();
        judgedDoneForThisCallAlone();
        judgedAskedAsItIsThen();
        due.end();
    }

    private static void nothingIsChanged() {
        due.of("In what follows nothing is changed.");
        for (DarkPlace x : new DarkPlace[] {Recipes.midst(), Recipes.full(), Recipes.noneLives(), new DarkPlace()}) {
            String before = Due.picture(x);
            for (int what = 0; what < 8; what++) {
                x.ask(what);
            }
            for (int place = 0; place < x.count(1); place++) {
                x.fate(place, 0);
                x.fate(place, 1);
                x.fate(place, 2);
            }
            x.judge(4, 200200200200L);
            x.judge(1, 100);
            due.same("all behind what is asked", Due.picture(x), before);
        }
    }

    private static void fateOfAPlace() {
        due.of("FATE of a PLACE at which THE HOLE MAY BE and where no SEARCHER is that LIVES");
        // 0 and 1 are visited, 2 is out at 2, 1 was swallowed at 5.
        int[] fates = {Due.STATE, Due.STATE, Due.STATE, 0, 0, 0};
        DarkPlace x = Recipes.midst();
        for (int place = 0; place < 6; place++) {
            for (int what = 0; what < 3; what++) {
                int answer = x.fate(place, what);
                due.is("fate(" + place + ", " + what + ")", answer == Due.STATE ? answer : 0, fates[place]);
            }
        }
        due.is("places that have a fate", x.ask(7), 0b111000);
        due.is("the hole's own place has one", x.ask(7) >> x.count(5) & 1, 1);
        due.is("all but home at first", Due.told("N8761").ask(7), 0b01111111);
        DarkPlace y = Due.told("N3021e01");
        Due.steps(y, "00");
        due.is("where one is out", y.fate(1, 0), Due.STATE);
        Due.steps(y, "00");
        due.is("where one was", y.fate(1, 0), Due.STATE);
        due.is("where it is known to be", y.fate(2, 0), 0);
    }

    private static void fates(DarkPlace x, int place, int rounds, int moves, int live) {
        due.is("rounds of " + place, x.fate(place, 0), rounds);
        due.is("moves of " + place, x.fate(place, 1), moves);
        due.is("living of " + place, x.fate(place, 2), live);
    }

    private static void fateAsIfTheHoleWereThere() {
        due.of("as if THE HOLE were there");
        // At 1: 0 is swallowed at once, 1 can go nowhere. At 2: 0 goes out and back, 1 follows to 1 and is swallowed at 2, 0
        // comes to 1 and rests. At 3: likewise, but 1 comes back from 2.
        DarkPlace x = Due.told(PATH);
        fates(x, 1, Due.NONE, 1, 1);
        fates(x, 2, Due.NONE, 5, 1);
        fates(x, 3, 4, 6, 2);
        due.is("it is at 3 all the same", x.count(5), 3);
    }

    private static void fateFromNowOn() {
        due.of("ROUNDS one behind the other from now on");
        DarkPlace x = Due.told(PATH);
        int[] left = {4, 3, 2, 1, 0};
        for (int round = 0; round < 5; round++) {
            due.is("behind " + round + " rounds", x.fate(3, 0), left[round]);
            x.round();
        }
        // One searcher on a star: 1 alone would be swallowed first, so steps were made to 2 and back.
        DarkPlace y = Due.told("N4011e01e02e03");
        Due.steps(y, "01", "01");
        fates(y, 1, Due.NONE, 3, 0);
        fates(y, 3, 2, 4, 1);
    }

    private static void fateTillItIsKnown() {
        due.of("(60 at most), till it is KNOWN: how many ROUNDS");
        // Out and back through 0, 7, 8, 9 (8 rounds); to 1, out and back through 1 and 2 (13); to 2, out and back through 3 (16);
        // to 4, out and back through 4 (19); to 5, out and back through 5 (22): then only 7 is left.
        DarkPlace x = Due.told(LONG_WAY);
        fates(x, 7, 22, 22, 1);
        // Swallowed on the way to 6 in round 21, to 4 in round 15, to 1 in round 1.
        fates(x, 6, Due.NONE, 21, 0);
        fates(x, 4, Due.NONE, 15, 0);
        fates(x, 1, Due.NONE, 1, 0);
        // It ends with the round in which it is known: those behind the one that came back have not gone.
        DarkPlace y = Due.told("N3023e01");
        fates(y, 2, 2, 2, 3);
    }

    private static void fateKnownNow() {
        due.of("(0: it is KNOWN now");
        fates(new DarkPlace(), 1, 0, 0, 1);
        DarkPlace x = Due.told("N3022e01e12");
        Due.steps(x, "00", "00", "00");
        due.is("known", x.ask(4), 1);
        fates(x, 2, 0, 3, 2);
    }

    private static void fateNotBehindSixty() {
        due.of("NONE: it is not behind 60)");
        // No edges; edges that can not be come to; none lives.
        fates(Due.told("N3011"), 1, Due.NONE, 0, 1);
        fates(Due.told("N4032e12e23"), 2, Due.NONE, 0, 2);
        fates(Recipes.noneLives(), 1, Due.NONE, 1, 0);
        fates(Recipes.noneLives(), 2, Due.NONE, 1, 0);
    }

    private static void fateMovesInAll() {
        due.of("MOVES in all by then");
        // Three steps were made ahead of it, two more come: 0 goes out from 1 to 2 and back, while 1 has nowhere to go.
        DarkPlace x = Due.told(PATH);
        Due.steps(x, "00", "00", "00");
        fates(x, 3, 2, 5, 2);
        due.is("moves now", x.ask(1), 3);
    }

    private static void fateHowManyLive() {
        due.of("how many LIVE then.");
        // A star of three edges: wherever the hole is one is swallowed, but at 3 where it is known when 1 and 2 are visited.
        DarkPlace two = Due.told("N4032e01e02e03");
        fates(two, 1, 4, 5, 1);
        fates(two, 2, 4, 5, 1);
        fates(two, 3, 2, 4, 2);
        DarkPlace four = Due.told("N4034e01e02e03");
        fates(four, 1, 2, 5, 3);
        fates(four, 3, 2, 5, 3);
    }

    private static void worstIsThatWithMostRounds() {
        due.of("WORST: of all PLACES that have a FATE that with most ROUNDS");
        // A star of four edges, told from 4 on, two searchers: at 4 or 3 one is swallowed at once, the other needs six rounds;
        // at 2 or 1 it is known behind four.
        DarkPlace x = Due.told("N5012e04e03e02e01");
        int[] rounds = {4, 4, 6, 6};
        for (int place = 1; place <= 4; place++) {
            due.is("rounds of " + place, x.fate(place, 0), rounds[place - 1]);
        }
        due.is("the worst", x.ask(5), 3);
        // Behind 4 and 3 visited: at 2 or 1 two rounds each.
        Due.rounds(x, 2);
        due.is("places that have a fate", x.ask(7), 0b00110);
        due.is("the worst then", x.ask(5), 1);
        due.is("the only one", new DarkPlace().ask(5), 1);
        // Where one is out there is no fate: the hole may be at 1 and 2, and 2 alone has one.
        DarkPlace out = Due.told("N3021e01");
        Due.steps(out, "00");
        due.is("not where one is out", out.ask(5), 2);
        // 1 to 5 are visited; edge 5: 0-7 comes ahead of 6: 0-6, so the hole at 7 swallows, and at 6 it is known when 7 is visited.
        DarkPlace y = Due.told("N8061e01e02e03e04e05e07e06");
        Due.steps(y, "00", "00", "01", "01", "02", "02", "03", "03", "04", "04");
        due.is("rounds of 6", y.fate(6, 0), 2);
        due.is("rounds of 7", y.fate(7, 0), Due.NONE);
        due.is("the last place", y.ask(5), 7);
        // Home is 2; only the hole at 0 swallows the one searcher, at 1 it is known when 0 is visited.
        DarkPlace z = Due.told("N3211e20");
        due.is("rounds of 1", z.fate(1, 0), 2);
        due.is("the first place", z.ask(5), 0);
    }

    private static void worstNoneIsMoreThanAny() {
        due.of("(NONE is more than any)");
        DarkPlace x = Due.told(PATH);
        Due.rounds(x, 2);
        due.is("rounds of 2", x.fate(2, 0), Due.NONE);
        due.is("rounds of 3", x.fate(3, 0), 2);
        due.is("the worst is 2", x.ask(5), 2);
        // The greater place is that with NONE: at 1 it is known when 2 is visited.
        DarkPlace y = Due.told("N3011e02");
        due.is("rounds of 1", y.fate(1, 0), 2);
        due.is("rounds of 2", y.fate(2, 0), Due.NONE);
        due.is("the worst is 2", y.ask(5), 2);
        due.is("22 rounds are less", Due.told(LONG_WAY).ask(5), 1);
    }

    private static void worstOfLikeOnesTheLeast() {
        due.of("of like ones the least");
        due.is("6 rounds at 1 and 2", Due.told("N5042e01e02e03e04").ask(5), 1);
        due.is("NONE at all", Due.told("N8761").ask(5), 0);
        due.is("NONE at 1 and 2", Due.told(PATH).ask(5), 1);
    }

    private static void worstOfNone() {
        due.of("NONE: there are none. (WORST; the hole's own place always has a fate, so it does not come about)");
        for (DarkPlace x : new DarkPlace[] {Recipes.midst(), Recipes.full(), Recipes.noneLives(), new DarkPlace()}) {
            due.is("the hole's place has a fate", x.ask(7) >> x.count(5) & 1, 1);
            due.is("a worst place", x.ask(5) >= 0 ? 1 : 0, 1);
        }
    }

    private static void fewestOneToFour() {
        due.of("FEWEST: the least number of SEARCHERS (1 to 4)");
        due.is("two places: known at once", Due.told("N2014").ask(6), 1);
        due.is("two places before any text", new DarkPlace().ask(6), 1);
        // One alone is swallowed where the hole is at 1; of two one always lives.
        due.is("a ring of three", Due.told("N3021e01e12e20").ask(6), 2);
        due.is("a star", Due.told("N5041e01e02e03e04").ask(6), 2);
        // Edges 0: 0-1, 1: 2-3, 2: 1-2, 3: 0-2, 4: 1-3. Two: the hole at 2 swallows 1 (edge 3) and then 0 (from 1, edge 2).
        // Three: at 2 also the third (edge 2), but 0 comes back from 3; at 1 the first and another (edge 2), 3 is visited by
        // edge 1; at 3 none.
        due.is("three of them", Due.told("N4032e01e23e12e02e13").ask(6), 3);
        // Edges 0: 0-1, 1: 1-3, 2: 2-3, 3: 0-2, 4: 3-4, 5: 1-2, 6: 2-4. Three: the hole at 2 swallows 1 (edge 3), 0 (edge 5)
        // and 2 (edge 2). Four: at 2 also three, but 2 comes back from 4; at 1 two; at 3 two; at 4 none.
        due.is("four of them", Due.told("N5031e01e13e23e02e34e12e24").ask(6), 4);
    }

    private static void fewestAsAtFirst() {
        due.of("such that, all as at first with so many");
        DarkPlace x = Due.told("N5041e01e02e03e04");
        due.is("whatever number there is", Due.told("N5044e01e02e03e04").ask(6), 2);
        Due.steps(x, "00", "00", "01", "01", "02", "02");
        due.is("though it is known", x.ask(4) * 10 + x.ask(6), 12);
        DarkPlace y = Due.told("N4011e01e02e03");
        Due.steps(y, "00");
        due.is("though none lives", y.ask(0) * 10 + y.ask(6), 2);
        y.hide(3);
        y.join();
        due.is("wherever it is hidden, whoever joins", y.ask(6), 2);
    }

    private static void fewestWhereverTheHoleWere() {
        due.of("wherever THE HOLE were (each PLACE but HOME), within 60 ROUNDS it is KNOWN and one LIVES then");
        // Only the hole at 1 leaves 2 unknown for good: there is no way to 2 but by 1.
        due.is("told with the hole at 1", Due.told("N3011e01e12").ask(6), Due.NONE);
        due.is("told with the hole at 2", Due.told("N3021e01e12").ask(6), Due.NONE);
        // Home is the last, the middle, the first place of a ring of three.
        due.is("home is 2", Due.told("N3201e01e12e20").ask(6), 2);
        due.is("home is 1", Due.told("N3101e01e12e20").ask(6), 2);
        // Home is 2; the hole at 0 leaves 1 unknown.
        due.is("only place 0 is bad", Due.told("N3211e20e01").ask(6), Due.NONE);
    }

    private static void fewestNone() {
        due.of("NONE. (FEWEST)");
        due.is("no edges", Due.told("N3011").ask(6), Due.NONE);
        due.is("a place without an edge, and another", Due.told("N4014e02").ask(6), Due.NONE);
        due.is("a path", Due.told(PATH).ask(6), Due.NONE);
    }

    private static void judged(DarkPlace x, int n, long row, int want) {
        due.is("judge(" + n + ", " + row + ")", x.judge(n, row), want);
    }

    private static void judgedOneToFourDoings() {
        due.of("JUDGED: n doings (1 to 4), told as three figures each");
        DarkPlace x = Due.told(PATH);
        judged(x, 0, 0, Due.OUTSIDE);
        judged(x, 1, 302, Due.NONE);
        judged(x, 2, 302302, Due.NONE);
        judged(x, 3, 302302302, Due.NONE);
        judged(x, 4, 302302302302L, Due.NONE);
        judged(x, 5, 302302302302L, Due.OUTSIDE);
        judged(x, 4, 302302302301L, 3);
        judged(x, 3, 302302301, 2);
        judged(x, 2, 302301, 1);
        judged(x, 1, 301, 0);
        // Fewer figures: noughts stand ahead of them, and 0, 0, 0 is no doing.
        judged(x, 2, 302, 0);
        judged(x, 4, 302302302, 0);
        judged(x, 1, 0, 0);
    }

    private static void judgedTheFirstIsTheHighest() {
        due.of("(the first one's are the highest of row)");
        DarkPlace x = Due.told(PATH);
        // Edge 0 is asked behind the step, not ahead of it.
        judged(x, 2, 100601, Due.NONE);
        judged(x, 2, 601100, 0);
        judged(x, 2, 600100, Due.NONE);
        judged(x, 2, 100600, 1);
    }

    private static void judgedStep() {
        due.of("(1, a SEARCHER, an EDGE: a STEP");
        DarkPlace x = Due.told(PATH);
        judged(x, 1, 100, Due.NONE);
        judged(x, 1, 110, Due.NONE);
        // Edge 1 and 2 end elsewhere; there is no searcher 2, 3, 9; no edge 3, 9.
        judged(x, 1, 101, 0);
        judged(x, 1, 102, 0);
        judged(x, 1, 120, 0);
        judged(x, 1, 130, 0);
        judged(x, 1, 190, 0);
        judged(x, 1, 103, 0);
        judged(x, 1, 109, 0);
        judged(x, 1, 199, 0);
        // Out, back, to 1, out to 2.
        judged(x, 4, 100100100101L, Due.NONE);
        judged(x, 4, 100100100102L, 3);
        judged(x, 3, 100100101, 2);
        // Out: only back; and no other through that edge.
        judged(x, 2, 100101, 1);
        judged(x, 2, 100110, 1);
        judged(x, 3, 100100110, Due.NONE);
        // A step that swallows can be; a second of the same searcher can not.
        DarkPlace y = Due.told("N3011e01");
        judged(y, 1, 100, Due.NONE);
        judged(y, 2, 100100, 1);
        // Known: not to where the hole is.
        judged(Due.told("N2011e01"), 1, 100, 0);
        // The last edge and the last searcher.
        DarkPlace z = Due.told("N8014e23e34e45e56e67e72e24e35e46e01");
        judged(z, 1, 139, Due.NONE);
        judged(z, 1, 138, 0);
    }

    private static void judgedRound() {
        due.of("2, 0, 0: a ROUND");
        DarkPlace x = Due.told(PATH);
        judged(x, 1, 200, Due.NONE);
        judged(x, 1, 201, 0);
        judged(x, 1, 210, 0);
        // 0 is out; 0 is back, 1 at 1; 0 at 1, 1 out at 2; 1 back.
        judged(x, 2, 200501, Due.NONE);
        judged(x, 4, 200200500511L, Due.NONE);
        judged(x, 4, 200200200512L, Due.NONE);
        judged(x, 4, 200200200511L, 3);
        // A round in which all rest can be; one when none lives can not, as round() refuses it.
        judged(new DarkPlace(), 2, 200200, Due.NONE);
        judged(Recipes.noneLives(), 1, 200, 0);
        judged(Due.told("N3011e01"), 2, 200200, 1);
    }

    private static void judgedHowManyLive() {
        due.of("3, 0, v: v LIVE");
        for (int searchers = 1; searchers <= 4; searchers++) {
            for (int v = 0; v <= 9; v++) {
                judged(Due.told("N201" + searchers), 1, 300 + v, v == searchers ? Due.NONE : 0);
            }
        }
        judged(Recipes.noneLives(), 1, 300, Due.NONE);
        judged(Recipes.noneLives(), 1, 301, 0);
        judged(Recipes.midst(), 1, 302, Due.NONE);
        judged(Recipes.midst(), 1, 303, 0);
    }

    private static void judgedMayBe() {
        due.of("4, 0, a PLACE: THE HOLE MAY BE there");
        // 0 and 1 are visited; there are no 6 to 9. It may be at 2, though a searcher is out there.
        for (int place = 0; place <= 9; place++) {
            judged(Recipes.midst(), 1, 400 + place, place >= 2 && place <= 5 ? Due.NONE : 0);
            judged(Due.told("N8761"), 1, 400 + place, place < 7 ? Due.NONE : 0);
        }
    }

    private static void judgedLivesAndIsThere() {
        due.of("5, a SEARCHER, a PLACE: it LIVES and is there");
        // 0 is at 0, 1 is swallowed at 5, 2 is out at 2; there is no searcher 3 to 9, no place 6 to 9.
        for (int searcher = 0; searcher <= 9; searcher++) {
            for (int place = 0; place <= 9; place++) {
                boolean isSo = searcher == 0 && place == 0 || searcher == 2 && place == 2;
                judged(Recipes.midst(), 1, 500 + searcher * 10 + place, isSo ? Due.NONE : 0);
            }
        }
        judged(Due.told("N8074"), 1, 530, Due.NONE);
        judged(Due.told("N8704"), 1, 537, Due.NONE);
    }

    private static void judgedEdge() {
        due.of("6, an EDGE, v: it is v (0 to 2)");
        // Edge 0 is safe, 1 and 4 are asked, 2 and 3 unseen; there is no edge 5 to 9.
        int[] states = {2, 1, 0, 0, 1, -1, -1, -1, -1, -1};
        for (int edge = 0; edge <= 9; edge++) {
            for (int v = 0; v <= 9; v++) {
                judged(Recipes.midst(), 1, 600 + edge * 10 + v, v == states[edge] ? Due.NONE : 0);
            }
        }
        judged(Due.told("N8014e23e34e45e56e67e72e24e35e46e01"), 1, 690, Due.NONE);
    }

    private static void judgedKnown() {
        due.of("7, 0, a PLACE: THE HOLE is KNOWN, and there)");
        DarkPlace x = Due.told("N3021e01");
        // Not known: it may be at 1 and 2.
        for (int place = 0; place <= 9; place++) {
            judged(x, 1, 700 + place, 0);
            judged(x, 3, 100100700 + place, place == 2 ? Due.NONE : 2);
        }
        Due.steps(x, "00", "00");
        for (int place = 0; place <= 9; place++) {
            judged(x, 1, 700 + place, place == 2 ? Due.NONE : 0);
        }
        judged(new DarkPlace(), 1, 701, Due.NONE);
        judged(Due.told("N2101"), 1, 700, Due.NONE);
    }

    private static void judgedOtherFigures() {
        due.of("(doings that are told otherwise can not be: kinds 0, 8, 9, and another second figure in 3, 4, 7)");
        DarkPlace x = Due.told("N2011");
        for (int rest = 0; rest <= 99; rest++) {
            judged(x, 1, rest, 0);
            judged(x, 1, 800 + rest, 0);
            judged(x, 1, 900 + rest, 0);
        }
        judged(x, 1, 301, Due.NONE);
        judged(x, 1, 311, 0);
        judged(x, 1, 401, Due.NONE);
        judged(x, 1, 411, 0);
        judged(x, 1, 701, Due.NONE);
        judged(x, 1, 711, 0);
    }

    private static void judgedTheFirstThatCanNotBe() {
        due.of("the place of the first that can not be (or is not so); NONE: none.");
        DarkPlace x = Due.told(PATH);
        judged(x, 4, 302403500600L, Due.NONE);
        judged(x, 4, 302403500601L, 3);
        judged(x, 4, 302403501601L, 2);
        judged(x, 4, 302400501601L, 1);
        judged(x, 4, 301400501601L, 0);
        // A step that can not be, a round behind it.
        judged(x, 3, 101200302, 0);
        judged(x, 3, 200101302, 1);
    }

    private static void judgedDoneForThisCallAlone() {
        due.of("1, 2 are done, from then on (for this call alone)");
        DarkPlace x = Due.told(PATH);
        String before = Due.picture(x);
        for (int turn = 0; turn < 2; turn++) {
            judged(x, 2, 100601, Due.NONE);
            judged(x, 2, 200501, Due.NONE);
            judged(x, 4, 100100200601L, 3);
            due.same("all behind it", Due.picture(x), before);
        }
        // From how all is now.
        Due.steps(x, "00", "00");
        judged(x, 2, 110511, Due.NONE);
        judged(x, 1, 602, Due.NONE);
        due.is("no acts but those two", x.count(6), 2);
    }

    private static void judgedAskedAsItIsThen() {
        due.of("3 to 7 are asked as it is then.");
        DarkPlace x = Due.told("N3012e01e02");
        // 0 is swallowed through edge 0; 1 goes out to 2 and back: it is known, at 1.
        judged(x, 2, 302100, Due.NONE);
        judged(x, 2, 100301, Due.NONE);
        judged(x, 2, 100302, 1);
        judged(x, 4, 100111111701L, Due.NONE);
        judged(x, 4, 100111111402L, 3);
        judged(x, 4, 100111402612L, 3);
        judged(x, 4, 100111402611L, Due.NONE);
        judged(x, 4, 100111512111L, Due.NONE);
        judged(x, 4, 100111111510L, Due.NONE);
    }
}
