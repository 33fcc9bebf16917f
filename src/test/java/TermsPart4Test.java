/** 'Terms', part 4, 'more plainly': every sentence of it. */
public final class TermsPart4Test {
    private static final Due due = new Due();

    public static void main(String[] args) {
        anAskedEdgeStaysSo();
        twoMayBeSwallowedThroughTwoEdges();
        oneThatIsOutMayBeAtAPlaceNotVisited();
        knownInTheMidstOfARound();
        thoseBehindRestButForOneThatIsOut();
        nearestByHowManySafeEdges();
        itsOwnPlaceIsNone();
        theSwallowedStaySoInFate();
        theSwallowedStaySoInSeen();
        theSwallowedStaySoInLuck();
        edgesAreAsTheyAre();
        knownDoesNotAskWhetherAnyLives();
        due.end();
    }

    private static void anAskedEdgeStaysSo() {
        due.of("an EDGE that is ASKED stays so for good, if its SEARCHER is SWALLOWED.");
        DarkPlace x = Due.told("N5013e01e02e03");
        Due.steps(x, "00");
        due.is("asked", x.edge(0, 2), 1);
        Due.rounds(x, 3);
        due.is("behind rounds", x.edge(0, 2), 1);
        due.is("another can not go through", x.step(1, 0), Due.STATE);
        due.is("the hole goes elsewhere", x.hide(4), 1);
        due.is("asked still", x.edge(0, 2), 1);
        due.is("and closed", x.step(1, 0), Due.STATE);
        x.join();
        due.is("to one who joins too", x.step(3, 0), Due.STATE);
        x.keep(0);
        x.again(0);
        due.is("when it is gone on from", x.edge(0, 2), 1);
        due.is("place 1 is never visited", x.ask(3) & 2, 2);
    }

    private static void twoMayBeSwallowedThroughTwoEdges() {
        due.of("Two SEARCHERS may be SWALLOWED through two EDGES.");
        // Edges 0: 0-1 and 2: 2-1 lead to the hole.
        DarkPlace x = Due.told("N4013e01e02e21");
        due.is("the first", x.step(0, 0), Due.NONE);
        Due.steps(x, "11", "11", "11");
        due.is("the second", x.step(1, 2), Due.NONE);
        due.is("one lives", x.ask(0), 1);
        due.is("both edges are asked", x.edge(0, 2) * 10 + x.edge(2, 2), 11);
        due.is("none is out", x.edge(0, 3) + x.edge(2, 3), 2 * Due.NONE);
        due.is("it is not known", x.ask(4), 0);
        due.is("moves", x.ask(1), 5);
        // In rounds too: 0 is swallowed in the first, 1 comes to 2 in the second and is swallowed in the fourth.
        DarkPlace y = Due.told("N4012e01e02e21");
        Due.rounds(y, 4);
        due.is("none lives", y.ask(0), 0);
    }

    private static void oneThatIsOutMayBeAtAPlaceNotVisited() {
        due.of("One that is OUT may be at a PLACE that is not VISITED.");
        DarkPlace x = Due.told("N4032e01e12e02");
        Due.steps(x, "00");
        due.is("out at 1", x.searcher(0, 0), 1);
        due.is("visited is home alone", x.ask(2), 0b0001);
        due.is("the hole may be there", x.ask(3), 0b1110);
        due.is("but it has no fate there", x.ask(7), 0b1100);
        // Or at one that is: 1 came back from 2 meanwhile, and 0 goes out to 2 from 1.
        Due.steps(x, "00", "12", "12", "00", "01");
        due.is("out at 2", x.searcher(0, 0) * 10 + x.searcher(0, 1), 21);
        due.is("2 is visited", x.ask(2), 0b0111);
    }

    private static void knownInTheMidstOfARound() {
        due.of("KNOWN may come about by one that goes back in the midst of a ROUND: those behind it rest then");
        // Three places: 0 comes back from 1, so it is known, and 1 does not go through edge 1.
        DarkPlace x = Due.told("N3022e01e02");
        Due.steps(x, "00");
        due.is("one makes a step", x.round(), 1);
        due.is("known", x.ask(4), 1);
        due.is("1 is at home", x.searcher(1, 0), 0);
        due.is("edge 1 is unseen", x.edge(1, 2), 0);
        due.is("both live", x.ask(0), 2);
        // One ahead of it still goes: 1 is out, 0 goes through edge 1 and is swallowed.
        DarkPlace y = Due.told("N3022e01e02");
        Due.steps(y, "10");
        due.is("both make a step", y.round(), 2);
        due.is("0 is swallowed", y.searcher(0, 0), Due.NONE);
        due.is("known", y.ask(4), 1);
    }

    private static void thoseBehindRestButForOneThatIsOut() {
        due.of("(but for one that is OUT)");
        // 0 is out at 2 through edge 1, 1 out at 2 through edge 2 (from 1), 2 is at home, where edge 3 is unseen.
        DarkPlace x = Due.told("N4033e01e02e12e03");
        Due.steps(x, "20", "20", "10", "01", "12");
        due.is("two go back, the third rests", x.round(), 2);
        due.is("0 is at home", x.searcher(0, 0), 0);
        due.is("1 is at 1", x.searcher(1, 0), 1);
        due.is("edge 2 is safe", x.edge(2, 2), 2);
        due.is("edge 3 is unseen", x.edge(3, 2), 0);
        due.is("all rest then", x.round(), 0);
    }

    private static void nearestByHowManySafeEdges() {
        due.of("\"nearest\": by how many SAFE EDGES");
        // Safe: 0: 0-5, 1: 0-1, 2: 1-2. Unseen: 3: 2-3 at 2, two away; 4: 5-4 at 5, one away.
        DarkPlace x = Due.told("N7061e05e01e12e23e54");
        Due.steps(x, "00", "00", "01", "01", "01", "02", "02", "01");
        due.is("towards 5", x.searcher(0, 3), 0);
        // From 1 it is the other way round: 2 is one away, 5 two.
        Due.steps(x, "01");
        due.is("towards 2", x.searcher(0, 3), 2);
        // An edge that is not safe shortens no way: edge 5: 0-2 is asked by one that is out at 2.
        DarkPlace y = Due.told("N7062e05e01e12e23e54e02");
        Due.steps(y, "00", "00", "01", "01", "01", "02", "02", "01", "00", "04", "04", "00", "15");
        due.is("all that is unseen is at 2 and 3", y.searcher(0, 0) * 10 + y.edge(3, 2), 0);
        due.is("towards 2 by 1", y.searcher(0, 3), 1);
        Due.steps(y, "15");
        due.is("by edge 5 when it is safe", y.searcher(0, 3), 5);
    }

    private static void itsOwnPlaceIsNone() {
        due.of("its own PLACE is none, as no UNSEEN EDGE ends there then.");
        DarkPlace x = Due.told("N5041e01e12");
        due.is("an unseen edge at its place: it goes through it", x.searcher(0, 3), 0);
        Due.steps(x, "00", "00");
        due.is("none any more: towards another place", x.searcher(0, 3), 0);
        Due.steps(x, "00", "01", "01");
        due.is("none anywhere", x.searcher(0, 3), Due.NONE);
    }

    /** 0 was swallowed at 1 through edge 0; 1 is at home, where edge 1: 0-2 is unseen; the hole may be at 1 and 2. */
    private static DarkPlace oneSwallowedAtOne() {
        DarkPlace x = Due.told("N3012e01e02");
        Due.steps(x, "00");
        return x;
    }

    private static void theSwallowedStaySoInFate() {
        due.of("In FATE [..] the SWALLOWED ones stay so");
        DarkPlace x = oneSwallowedAtOne();
        // The hole at 2: 1 is swallowed there too.
        due.is("rounds of 2", x.fate(2, 0), Due.NONE);
        due.is("moves of 2", x.fate(2, 1), 2);
        due.is("living of 2", x.fate(2, 2), 0);
        // The hole at 1: 1 goes out to 2 and back.
        due.is("rounds of 1", x.fate(1, 0), 2);
        due.is("moves of 1", x.fate(1, 1), 3);
        due.is("living of 1", x.fate(1, 2), 1);
    }

    private static void theSwallowedStaySoInSeen() {
        due.of("In [..] SEEN [..] the SWALLOWED ones stay so");
        DarkPlace x = oneSwallowedAtOne();
        x.see(0, 1);
        due.is("one lives now, wherever it is", x.which(), 0b110);
        x.see(1, 0);
        due.is("none lives behind one round, if it is at 2", x.which(), 0b100);
        x.unsee();
        x.see(5, 1);
        due.is("one lives behind five, if it is at 1", x.which(), 0b010);
        x.unsee();
        x.see(0, 2);
        due.is("never two", x.which(), 0);
    }

    private static void theSwallowedStaySoInLuck() {
        due.of("In [..] LUCK the SWALLOWED ones stay so");
        DarkPlace x = oneSwallowedAtOne();
        due.is("two live: above", x.luck(0, 2, true), 0);
        due.is("two live: below", x.luck(0, 2, false), 1);
        due.is("one lives now", x.luck(0, 1, true), 1);
        due.is("one lives behind one round: above", x.luck(1, 1, true), 1);
        due.is("one lives behind one round: below", x.luck(1, 1, false), 2);
    }

    private static void edgesAreAsTheyAre() {
        due.of("EDGES are as they are.");
        // Edge 0 was asked by one that was swallowed at 1. Were the hole at 3, edge 0 would lead to 1 alone: nobody goes.
        DarkPlace x = Due.told("N4012e01e02");
        Due.steps(x, "00");
        due.is("rounds of 3: 1 is never visited", x.fate(3, 0), Due.NONE);
        due.is("moves of 3: out and back through edge 1", x.fate(3, 1), 3);
        due.is("living of 3", x.fate(3, 2), 1);
        x.see(20, 1);
        due.is("one lives with the hole at 1 or 3", x.which(), 0b1010);
        due.is("luck above", x.luck(20, 1, true), 2);
        due.is("luck below", x.luck(20, 1, false), 3);
        // What is safe stays so: three rounds were made.
        DarkPlace y = Due.told("N4032e01e12e23");
        Due.rounds(y, 3);
        due.is("one more round, 1 is out at 2", y.fate(3, 0), 1);
    }

    private static void knownDoesNotAskWhetherAnyLives() {
        due.of("KNOWN does not ask whether any LIVES.");
        // By itself: how many are swallowed changes nothing. (None can be swallowed when it is known, nor make it known.)
        DarkPlace x = oneSwallowedAtOne();
        due.is("one lives: not known", x.ask(4), 0);
        Due.steps(x, "11", "11");
        due.is("one lives: known", x.ask(4), 1);
        due.is("none lives: not known", Recipes.noneLives().ask(4), 0);
        due.is("all live: not known", Due.told("N3011e01").ask(4), 0);
        due.is("all live: known", Due.told("N2014").ask(4), 1);
    }
}
