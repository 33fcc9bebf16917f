/** 'Terms', part 1: places, edges, searchers, what is visited and known, steps and rounds. (Texts and acts: TermsPart1TextTest.) */
public final class TermsPart1Test {
    private static final Due due = new Due();

    public static void main(String[] args) {
        placesAreTwoToEight();
        edgesAreNeverMoreThanTen();
        edgesAreBetweenTwoPlaces();
        neverTwoEdgesBetweenTheSameTwo();
        homeAndTheHoleAreTwo();
        searchersAreOneToFour();
        allAtHomeAtFirst();
        eachLivesOrIsSwallowed();
        outThroughAnEdgeOrNot();
        edgesAreUnseenAskedSafe();
        beforeAnyText();
        visited();
        mayBe();
        known();
        stepThroughAnEdgeThatEndsAtItsPlace();
        stepA();
        stepB();
        stepC();
        stepCSwallows();
        noneElseCanBe();
        movesAreOneMoreByEachStep();
        roundByNumber();
        roundOneThatIsOutGoesBack();
        roundRestsWhenKnown();
        roundLeastUnseenEdge();
        roundTowardsTheNearest();
        roundOfLikeNearOnesTheLeast();
        roundOfEdgesTheLeast();
        roundElseItRests();
        due.end();
    }

    private static void fault(String text, int want) {
        due.is("fault() of '" + text + "'", Due.written(text).fault(), want);
    }

    private static void placesAreTwoToEight() {
        due.of("PLACES are 0 to n less 1 (n 2 to 8).");
        fault("N1001", 1);
        fault("N9011", 1);
        DarkPlace two = Due.told("N2011");
        due.is("places of the least net", two.count(1), 2);
        due.is("place 1 of two", two.hide(1), Due.STATE);
        due.is("place 2 of two", two.hide(2), Due.UNKNOWN);
        due.is("place -1 of two", two.hide(-1), Due.UNKNOWN);
        due.is("the hole may be at 1", two.ask(3), 0b10);
        DarkPlace eight = Due.told("N8011");
        due.is("places of the greatest net", eight.count(1), 8);
        due.is("place 7 of eight", eight.hide(7), 1);
        due.is("place 8 of eight", eight.hide(8), Due.UNKNOWN);
        due.is("the hole may be at 1 to 7", eight.ask(3), 0b11111110);
    }

    private static void edgesAreNeverMoreThanTen() {
        due.of("EDGES are 0, 1, .. (never more than 10)");
        String ten = "N8011e01e12e23e34e45e56e67e70e02e13";
        DarkPlace x = Due.told(ten);
        due.is("ten edges", x.count(2), 10);
        due.is("edge 0 is the first one told", x.edge(0, 0) * 10 + x.edge(0, 1), 1);
        due.is("edge 7 is the eighth", x.edge(7, 0) * 10 + x.edge(7, 1), 7);
        due.is("edge 9 is the tenth", x.edge(9, 0) * 10 + x.edge(9, 1), 13);
        due.is("there is no edge 10", x.edge(10, 0), Due.UNKNOWN);
        due.is("an eleventh", Due.written(ten + "e14").fault(), 35);
        due.is("none", Due.told("N8011").count(2), 0);
        due.is("there is no edge 0 then", Due.told("N8011").edge(0, 0), Due.UNKNOWN);
    }

    private static void edgesAreBetweenTwoPlaces() {
        due.of("each between two PLACES (not one");
        fault("N3011e00", 7);
        fault("N3011e22", 7);
        fault("N8011e77", 7);
        DarkPlace x = Due.told("N3011e20");
        due.is("the two of them", x.edge(0, 0) * 10 + x.edge(0, 1), 2);
    }

    private static void neverTwoEdgesBetweenTheSameTwo() {
        due.of("never two EDGES between the same two)");
        fault("N3011e01e01", 10);
        fault("N3011e01e10", 10);
        fault("N8011e67e01e76", 13);
        fault("N3011e01e12e20", Due.NONE);
    }

    private static void homeAndTheHoleAreTwo() {
        due.of("One PLACE is HOME, another one THE HOLE.");
        fault("N2001", 3);
        fault("N2111", 3);
        fault("N8771", 3);
        DarkPlace x = Due.told("N2101");
        due.is("home", x.count(4), 1);
        due.is("the hole", x.count(5), 0);
        DarkPlace y = Due.told("N8761");
        due.is("home", y.count(4), 7);
        due.is("the hole", y.count(5), 6);
    }

    private static void searchersAreOneToFour() {
        due.of("SEARCHERS are 0, 1, .. (1 to 4)");
        fault("N2010", 4);
        fault("N2015", 4);
        DarkPlace one = Due.told("N2011");
        due.is("one", one.count(3), 1);
        due.is("there is no second", one.searcher(1, 0), Due.UNKNOWN);
        DarkPlace four = Due.told("N2014");
        due.is("four", four.count(3), 4);
        due.is("the fourth", four.searcher(3, 0), 0);
        due.is("there is no fifth", four.searcher(4, 0), Due.UNKNOWN);
        due.is("none joins", four.join(), Due.FULL);
    }

    private static void allAtHomeAtFirst() {
        due.of("all at HOME at first");
        DarkPlace x = Due.told("N8704e70");
        for (int searcher = 0; searcher < 4; searcher++) {
            due.is("place of " + searcher, x.searcher(searcher, 0), 7);
            due.is("way out of " + searcher, x.searcher(searcher, 1), Due.NONE);
        }
    }

    private static void eachLivesOrIsSwallowed() {
        due.of("each LIVES, or is SWALLOWED; one that LIVES is at a PLACE");
        DarkPlace x = Due.told("N3022e02");
        due.is("both live", x.ask(0), 2);
        due.is("0 is swallowed", x.step(0, 0), Due.NONE);
        due.is("one lives", x.ask(0), 1);
        due.is("0 is at no place", x.searcher(0, 0), Due.NONE);
        due.is("1 is at a place", x.searcher(1, 0), 0);
        due.is("both are searchers", x.count(3), 2);
    }

    private static void outThroughAnEdgeOrNot() {
        due.of("it is OUT through an EDGE, or not.");
        DarkPlace x = Due.told("N4032e12e01");
        due.is("not at first", x.searcher(0, 1), Due.NONE);
        Due.steps(x, "01");
        due.is("out through edge 1", x.searcher(0, 1), 1);
        due.is("who is out through edge 1", x.edge(1, 3), 0);
        due.is("the other one is not out", x.searcher(1, 1), Due.NONE);
        Due.steps(x, "01");
        due.is("not any more", x.searcher(0, 1), Due.NONE);
    }

    private static void edgesAreUnseenAskedSafe() {
        due.of("An EDGE is UNSEEN (0; at first), ASKED (1) or SAFE (2).");
        DarkPlace x = Due.told("N4031e01e02");
        due.is("unseen", x.edge(0, 2), 0);
        Due.steps(x, "00");
        due.is("asked", x.edge(0, 2), 1);
        Due.steps(x, "00");
        due.is("safe", x.edge(0, 2), 2);
        due.is("the other is unseen still", x.edge(1, 2), 0);
    }

    private static void asBeforeAnyText(String when, DarkPlace x) {
        due.is("places " + when, x.count(1), 2);
        due.is("home " + when, x.count(4), 0);
        due.is("the hole " + when, x.count(5), 1);
        due.is("searchers " + when, x.count(3), 1);
        due.is("edges " + when, x.count(2), 0);
    }

    private static void beforeAnyText() {
        due.of("(Before any TEXT was told there are two PLACES, HOME is 0, THE HOLE 1, one SEARCHER, no EDGES.)");
        DarkPlace x = new DarkPlace();
        asBeforeAnyText("of a new object", x);
        due.is("the searcher is at home", x.searcher(0, 0), 0);
        due.is("there is no second", x.searcher(1, 0), Due.UNKNOWN);
        due.is("there is no edge", x.edge(0, 0), Due.UNKNOWN);
        Due.rewrite(x, "N8764e01e12");
        asBeforeAnyText("when it is only written", x);
        x.write('x');
        due.is("a faulty text", x.net(), Due.STATE);
        asBeforeAnyText("behind a refused net()", x);
        due.is("it can be kept", x.keep(0), 0);
        due.is("it can be gone on from", x.again(0), 0);
        asBeforeAnyText("behind again()", x);
    }

    private static void visited() {
        due.of("VISITED are HOME and all PLACES at which a SAFE EDGE ends.");
        due.is("home alone", Due.told("N5341e01e12").ask(2), 0b01000);
        DarkPlace x = Due.told("N5041e01e12");
        Due.steps(x, "00");
        due.is("an asked edge does not count", x.ask(2), 0b00001);
        Due.steps(x, "00");
        due.is("both ends of a safe one", x.ask(2), 0b00011);
        Due.steps(x, "00", "01");
        due.is("out at 2", x.ask(2), 0b00011);
        Due.steps(x, "01");
        due.is("back from 2", x.ask(2), 0b00111);
    }

    private static void mayBe() {
        due.of("THE HOLE MAY BE at those that are not VISITED.");
        DarkPlace x = Due.told("N5041e01e12");
        due.is("all but home", x.ask(3), 0b11110);
        Due.steps(x, "00");
        due.is("where one is out it may be", x.ask(3), 0b11110);
        Due.steps(x, "00");
        due.is("where one came back from it may not", x.ask(3), 0b11100);
        DarkPlace y = Due.told("N3012e01");
        Due.steps(y, "00");
        due.is("one that is swallowed tells nothing", y.ask(3), 0b110);
    }

    private static void known() {
        due.of("It is KNOWN, if it MAY BE at one alone.");
        due.is("one of two places", Due.told("N2011").ask(4), 1);
        due.is("two of three places", Due.told("N3021e01").ask(4), 0);
        DarkPlace x = Due.told("N3021e01");
        Due.steps(x, "00");
        due.is("two of three when one is out", x.ask(4), 0);
        Due.steps(x, "00");
        due.is("one of three", x.ask(4), 1);
        DarkPlace y = Due.told("N4031e01e02");
        Due.steps(y, "00", "00");
        due.is("two of four", y.ask(4), 0);
        Due.steps(y, "01", "01");
        due.is("one of four", y.ask(4), 1);
    }

    private static void stepThroughAnEdgeThatEndsAtItsPlace() {
        due.of("A STEP of a SEARCHER that LIVES, through an EDGE that ends at its PLACE");
        DarkPlace x = Due.told("N5042e01e12e20");
        due.is("edge 1 does not end at home", x.step(0, 1), Due.STATE);
        due.is("edge 0 does", x.step(0, 0), 1);
        due.is("edge 2 does, for another", x.step(1, 2), 2);
        DarkPlace y = Due.told("N3012e01e02");
        Due.steps(y, "00");
        due.is("one that does not live", y.step(0, 1), Due.STATE);
        due.is("one that lives", y.step(1, 1), 2);
        // A safe edge that ends elsewhere: searcher 1 is at home, edge 1 lies between 1 and 2.
        DarkPlace z = Due.told("N5042e01e12");
        Due.steps(z, "00", "00", "00", "01", "01");
        due.is("a safe edge elsewhere", z.step(1, 1), Due.STATE);
    }

    /** Edges 0: 0-1 (safe), 1: 0-2, 2: 1-2, 3: 2-3; searcher 0 is out at 2 through edge 2, 1 is at home. */
    private static DarkPlace outAtTwo() {
        DarkPlace x = Due.told("N5042e01e02e12e23");
        Due.steps(x, "00", "00", "00", "02");
        return x;
    }

    private static void stepA() {
        due.of("(a) it is OUT: it must be the EDGE through which it is OUT; it goes back, is not OUT any more, the EDGE is SAFE");
        DarkPlace x = outAtTwo();
        due.is("it can go through edge 2 alone", x.searcher(0, 2), 0b0100);
        due.is("not through an unseen edge", x.step(0, 3), Due.STATE);
        due.is("nor another unseen one", x.step(0, 1), Due.STATE);
        Due.steps(x, "11");
        due.is("nor one through which another is out", x.step(0, 1), Due.STATE);
        due.is("nor that one through its edge", x.step(1, 2), Due.STATE);
        Due.steps(x, "11");
        due.is("edge 1 is safe", x.edge(1, 2), 2);
        due.is("nor through a safe edge", x.step(0, 1), Due.STATE);
        due.is("back", x.step(0, 2), 1);
        due.is("it is not out any more", x.searcher(0, 1), Due.NONE);
        due.is("edge 2 is safe", x.edge(2, 2), 2);
        due.is("none is out through it", x.edge(2, 3), Due.NONE);
        due.is("it is at 1", x.searcher(0, 0), 1);
    }

    private static void stepB() {
        due.of("(b) it is not OUT, the EDGE is SAFE: it goes to the other PLACE");
        DarkPlace x = Due.told("N4032e01e12");
        Due.steps(x, "00", "00");
        due.is("to the greater place", x.step(1, 0), 1);
        due.is("it is not out", x.searcher(1, 1), Due.NONE);
        due.is("none is out through the edge", x.edge(0, 3), Due.NONE);
        due.is("the edge is safe still", x.edge(0, 2), 2);
        due.is("to the lesser place", x.step(1, 0), 0);
        due.is("another one too", x.step(0, 0), 1);
        due.is("nothing more is visited", x.ask(2), 0b0011);
        // Known or not: three places, the hole at 2.
        DarkPlace y = Due.told("N3021e01");
        Due.steps(y, "00", "00");
        due.is("known", y.ask(4), 1);
        due.is("through a safe edge all the same", y.step(0, 0), 1);
    }

    private static void stepC() {
        due.of("(c) it is not OUT, the EDGE is UNSEEN, and not (THE HOLE is KNOWN and the EDGE ends there): the EDGE is ASKED; "
            + "[..] else it is there, OUT through that EDGE.");
        DarkPlace x = Due.told("N4031e01e02e12e03");
        due.is("out", x.step(0, 0), 1);
        due.is("the edge is asked", x.edge(0, 2), 1);
        due.is("out through it", x.searcher(0, 1), 0);
        Due.steps(x, "00");
        due.is("while it is not known the edge to the hole is open", x.searcher(0, 2), 0b1011);
        Due.steps(x, "01", "01");
        due.is("known, at 3", x.ask(4) * 100 + x.ask(3), 108);
        due.is("edge 3 ends there", x.step(0, 3), Due.STATE);
        due.is("it is not among those it can go through", x.searcher(0, 2), 0b0011);
        Due.steps(x, "00");
        due.is("edge 2 does not end there", x.searcher(0, 2), 0b0101);
        due.is("so it can be asked", x.step(0, 2), 2);
        due.is("out through it", x.searcher(0, 1), 2);
        due.is("and back", x.step(0, 2), 1);
        // Two places: known from the first, so the only edge is never gone through.
        due.is("known at first", Due.told("N2011e01").step(0, 0), Due.STATE);
    }

    private static void stepCSwallows() {
        due.of("if THE HOLE is at the other PLACE, it is SWALLOWED");
        DarkPlace x = Due.told("N4032e01e03");
        due.is("swallowed", x.step(0, 1), Due.NONE);
        due.is("the edge is asked", x.edge(1, 2), 1);
        due.is("it is at no place", x.searcher(0, 0), Due.NONE);
        due.is("it is not out", x.searcher(0, 1), Due.NONE);
        due.is("none is out through the edge", x.edge(1, 3), Due.NONE);
        due.is("one lives", x.ask(0), 1);
        // The lesser place may be the hole too.
        DarkPlace y = Due.told("N3201e02");
        due.is("swallowed at 0", y.step(0, 0), Due.NONE);
    }

    private static void noneElseCanBe() {
        due.of("None else can be.");
        // In the midst 0 is at home, 1 swallowed, 2 out at 2 through edge 1; edge 0 is safe, 1 and 4 asked, 2 and 3 unseen.
        boolean[][] canBe = {{true, false, false, false, false}, new boolean[5], {false, true, false, false, false}};
        for (int searcher = 0; searcher < 3; searcher++) {
            for (int edge = 0; edge < 5; edge++) {
                int s = searcher;
                int e = edge;
                if (!canBe[s][e]) {
                    due.refusedBeside("step(" + s + ", " + e + ")", Recipes::midst, x -> x.step(s, e), Due.STATE);
                }
            }
        }
        due.is("step(0, 0)", Recipes.midst().step(0, 0), 1);
        due.is("step(2, 1)", Recipes.midst().step(2, 1), 0);
    }

    private static void movesAreOneMoreByEachStep() {
        due.of("MOVES are 1 more by each STEP.");
        DarkPlace x = Due.told("N4033e01e03e12");
        due.is("none at first", x.ask(1), 0);
        Due.steps(x, "00");
        due.is("out", x.ask(1), 1);
        Due.steps(x, "00");
        due.is("back", x.ask(1), 2);
        Due.steps(x, "00");
        due.is("through a safe edge", x.ask(1), 3);
        Due.steps(x, "11");
        due.is("swallowed", x.ask(1), 4);
        due.is("a step that can not be", x.step(1, 1), Due.STATE);
        due.is("moves behind it", x.ask(1), 4);
        x.join();
        x.hide(2);
        due.is("other acts", x.ask(1), 4);
        // 0 goes through edge 2 to the hole, and nothing unseen is left to the others.
        due.is("a round of one step", x.round() * 10 + x.ask(1), 15);
        DarkPlace y = Due.told("N5043e01e02e03");
        due.is("a round of three steps", y.round() * 10 + y.ask(1), 33);
        due.is("and another", y.round() * 10 + y.ask(1), 36);
        due.is("undone", y.undo() * 10 + y.ask(1), 13);
    }

    private static void roundByNumber() {
        due.of("A ROUND: SEARCHERS that LIVE, by number, each as all is then");
        // 0 asks edge 0, so 1 has edge 1 left, and 2 none.
        DarkPlace x = Due.told("N4033e01e02");
        due.is("two of three make a step", x.round(), 2);
        due.is("0 is at 1", x.searcher(0, 0), 1);
        due.is("1 is at 2", x.searcher(1, 0), 2);
        due.is("2 is at home", x.searcher(2, 0), 0);
        // 0 is swallowed in the first round, so 1 alone goes back in the second.
        DarkPlace y = Due.told("N4012e01e02e03");
        due.is("both make a step", y.round(), 2);
        due.is("one that is swallowed makes none", y.round(), 1);
        due.is("1 is back", y.searcher(1, 0), 0);
        // What 0 makes safe is open to 1 in the same round.
        DarkPlace z = Due.told("N4032e01e12");
        Due.steps(z, "00");
        due.is("0 goes back, 1 goes where it was", z.round(), 2);
        due.is("1 is at 1", z.searcher(1, 0), 1);
        // But what 1 makes safe comes too late for 0.
        DarkPlace w = Due.told("N4032e01e12");
        Due.steps(w, "10");
        due.is("0 rests, 1 goes back", w.round(), 1);
        due.is("0 is at home", w.searcher(0, 0), 0);
    }

    private static void roundOneThatIsOutGoesBack() {
        due.of("one that is OUT goes back");
        DarkPlace x = Due.told("N5041e01e12e13");
        Due.steps(x, "00");
        due.is("though unseen edges end at its place", x.searcher(0, 3), 0);
        due.is("it goes back", x.round() * 10 + x.searcher(0, 0), 10);
        due.is("the edge is safe", x.edge(0, 2), 2);
        // Both places but the hole's are visited, edge 2 lies between them: out through it though the hole is known.
        DarkPlace y = Due.told("N4031e01e02e12");
        Due.steps(y, "00", "00", "01", "01", "00", "02");
        due.is("known, and one is out", y.ask(4) * 10 + y.searcher(0, 1), 12);
        due.is("it goes back all the same", y.round() * 10 + y.searcher(0, 0), 11);
    }

    private static void roundRestsWhenKnown() {
        due.of("else, if THE HOLE is KNOWN, it rests");
        DarkPlace x = Due.told("N4031e01e02e12");
        Due.steps(x, "00", "00", "01", "01", "00");
        due.is("an unseen edge ends at its place", x.searcher(0, 2), 0b101);
        due.is("it would rest", x.searcher(0, 3), Due.NONE);
        due.is("it rests", x.round(), 0);
        Due.steps(x, "00");
        due.is("an unseen edge could be come to", x.searcher(0, 3), Due.NONE);
        due.is("it rests there too", x.round(), 0);
    }

    private static void roundLeastUnseenEdge() {
        due.of("else, if an UNSEEN EDGE ends at its PLACE, it goes through the least such");
        DarkPlace x = Due.told("N5041e03e02e01");
        due.is("edge 0, though 3 is not the least place", x.searcher(0, 3), 0);
        Due.rounds(x, 2);
        due.is("edge 1 then, though edge 0 is safe", x.searcher(0, 3), 1);
        Due.rounds(x, 2);
        due.is("edge 2 then", x.searcher(0, 3), 2);
        // Edge 0 is unseen but ends elsewhere.
        due.is("the least that ends there", Due.told("N5041e12e01e02").searcher(0, 3), 1);
        // Edge 1 is asked by another.
        DarkPlace y = Due.told("N5042e12e01e02");
        Due.steps(y, "01");
        due.is("an asked one is passed over", y.searcher(1, 3), 2);
    }

    private static void roundTowardsTheNearest() {
        due.of("else, if some PLACE at which an UNSEEN EDGE ends can be come to by SAFE EDGES, it goes through a SAFE EDGE towards "
            + "the nearest such");
        // Safe: 0: 0-4, 1: 0-2, 2: 2-1. Unseen: 3: 1-3 (place 1 is two away), 4: 4-5 (place 4 is one away).
        DarkPlace x = Due.told("N7061e04e02e21e13e45");
        Due.steps(x, "00", "00", "01", "01", "01", "02", "02", "01");
        due.is("4 is nearer than 1", x.searcher(0, 3), 0);
        due.is("it goes there", x.round() * 10 + x.searcher(0, 0), 14);
        // The last place is a way and an end of it: out and back through 0: 0-1 and 1: 0-7, to 7, out to 6.
        DarkPlace last = Due.told("N8051e01e07e76");
        Due.rounds(last, 4);
        due.is("towards 7", last.searcher(0, 3), 1);
        due.is("it is at 7", last.round() * 10 + last.searcher(0, 0), 17);
        due.is("two edges end there", last.searcher(0, 2), 0b110);
        due.is("out to 6", last.round() * 10 + last.searcher(0, 0), 16);
        // The first edge and the first place: home is 3, safe are 1: 3-1 and 2: 3-0, and edge 0: 0-4 is unseen.
        DarkPlace first = Due.told("N6351e04e31e30");
        Due.steps(first, "01", "01", "02", "02", "01");
        due.is("from 1 home", first.searcher(0, 3), 1);
        Due.rounds(first, 1);
        due.is("from home to 0", first.searcher(0, 3), 2);
        Due.rounds(first, 1);
        due.is("at 0 through edge 0", first.searcher(0, 3), 0);
        // The nearest by asked edges is not meant: 1 is out at 1, where edge 2: 1-3 begins; 2 is one safe edge away.
        DarkPlace y = Due.told("N6052e01e02e13e24");
        Due.steps(y, "01", "01", "10");
        due.is("through the safe edge", y.searcher(0, 3), 1);
        // A place behind the hole's edges can not be come to: 1 is swallowed at 1, beyond it lies 2.
        DarkPlace z = Due.told("N4012e01e12e03");
        Due.steps(z, "10", "02", "02");
        due.is("nothing can be come to", z.searcher(0, 3), Due.NONE);
    }

    private static void roundOfLikeNearOnesTheLeast() {
        due.of("(of like near ones the least");
        // Edges 0: 0-2 and 1: 0-1 are safe; unseen edges end at 1 and at 2, both one away.
        DarkPlace x = Due.told("N6051e02e01e13e24");
        Due.steps(x, "00", "00", "01", "01");
        due.is("towards 1, through edge 1", x.searcher(0, 3), 1);
        Due.rounds(x, 1);
        due.is("it is at 1", x.searcher(0, 0), 1);
    }

    private static void roundOfEdgesTheLeast() {
        due.of("of EDGES by which it comes nearer to that the least)");
        // Safe: 0: 0-2, 1: 0-1, 2: 1-3, 3: 2-3. The only unseen edge, 4: 3-4, is two away, by 1 or by 2.
        DarkPlace x = Due.told("N6051e02e01e13e23e34");
        Due.steps(x, "00", "00", "01", "01", "00", "03", "03", "00", "01", "02", "02", "01");
        due.is("it is at home", x.searcher(0, 0), 0);
        due.is("through edge 0, by 2", x.searcher(0, 3), 0);
        // Safe: 0: 0-1, 1: 0-2, 2: 2-3. Edge 0 is less than edge 1, but does not lead nearer to 3.
        DarkPlace y = Due.told("N6051e01e02e23e34");
        Due.steps(y, "00", "00", "01", "01", "01", "02", "02", "01");
        due.is("edge 0 does not come nearer", y.searcher(0, 3), 1);
    }

    private static void roundElseItRests() {
        due.of("else it rests.");
        due.is("no edges", Due.told("N3021").round(), 0);
        DarkPlace x = Due.told("N5042e01e23");
        Due.steps(x, "00", "00");
        due.is("what is unseen can not be come to", x.searcher(0, 3), Due.NONE);
        due.is("all rest", x.round(), 0);
        due.is("moves", x.ask(1), 2);
    }
}
