import java.util.function.ToLongFunction;

/** 'Terms', the first part: refusals, NONE, fractions, places and sets. */
public final class TermsHeadTest {
    private static final Due due = new Due();

    public static void main(String[] args) {
        ofSeveralRefusalsTheFirst();
        unknown();
        outside();
        state();
        full();
        refusedChangesNothing();
        noneIsMinusNine();
        fractionsAboveAndBelow();
        fractionsLessThanNought();
        fractionsInLeastTerms();
        noughtIsNoughtAboveAndOneBelow();
        refusalsOfFractions();
        placesOfLettersFromNought();
        placesOfDoingsFromNought();
        setsAreBits();
        due.end();
    }

    private static void midst(String what, ToLongFunction<DarkPlace> call, long want) {
        due.refusedBeside(what + " in the midst", Recipes::midst, call, want);
    }

    private static void full(String what, ToLongFunction<DarkPlace> call, long want) {
        due.refusedBeside(what + " when all is full", Recipes::full, call, want);
    }

    private static void ofSeveralRefusalsTheFirst() {
        due.of("REFUSALS, of several the first that a call names (in just that row)");
        // write: OUTSIDE ahead of FULL.
        full("write(256)", x -> x.write(256), Due.OUTSIDE);
        full("write(-1)", x -> x.write(-1), Due.OUTSIDE);
        // edge, searcher: UNKNOWN ahead of OUTSIDE.
        midst("edge(5, 4)", x -> x.edge(5, 4), Due.UNKNOWN);
        midst("edge(-1, -1)", x -> x.edge(-1, -1), Due.UNKNOWN);
        midst("searcher(3, 4)", x -> x.searcher(3, 4), Due.UNKNOWN);
        midst("searcher(-1, -1)", x -> x.searcher(-1, -1), Due.UNKNOWN);
        // step: UNKNOWN, of the searcher and of the edge, ahead of STATE: 1 is swallowed, 2 is out through edge 1.
        midst("step(1, 5)", x -> x.step(1, 5), Due.UNKNOWN);
        midst("step(2, -1)", x -> x.step(2, -1), Due.UNKNOWN);
        midst("step(3, 1)", x -> x.step(3, 1), Due.UNKNOWN);
        midst("step(-1, 1)", x -> x.step(-1, 1), Due.UNKNOWN);
        // fate: UNKNOWN ahead of OUTSIDE ahead of STATE: 0 is visited.
        midst("fate(6, 3)", x -> x.fate(6, 3), Due.UNKNOWN);
        midst("fate(-1, -1)", x -> x.fate(-1, -1), Due.UNKNOWN);
        midst("fate(6, 0)", x -> x.fate(6, 0), Due.UNKNOWN);
        midst("fate(0, 3)", x -> x.fate(0, 3), Due.OUTSIDE);
        midst("fate(0, -1)", x -> x.fate(0, -1), Due.OUTSIDE);
        // see: OUTSIDE ahead of FULL.
        full("see(21, 0)", x -> x.see(21, 0), Due.OUTSIDE);
        full("see(0, 5)", x -> x.see(0, 5), Due.OUTSIDE);
        full("see(-1, -1)", x -> x.see(-1, -1), Due.OUTSIDE);
        // share, hide, again: UNKNOWN ahead of STATE.
        due.refusedBeside("share(1) where none lives", Recipes::noneLives, x -> x.share(1, true), Due.UNKNOWN);
        midst("hide(6)", x -> x.hide(6), Due.UNKNOWN);
        due.refusedBeside("again(2), none kept", DarkPlace::new, x -> x.again(2), Due.UNKNOWN);
        due.refusedBeside("again(-1), none kept", DarkPlace::new, x -> x.again(-1), Due.UNKNOWN);
    }

    private static void unknown() {
        due.of("UNKNOWN (there is no such PLACE, EDGE, SEARCHER, slot)");
        midst("no such place", x -> x.hide(6), Due.UNKNOWN);
        midst("no such place", x -> x.fate(6, 0), Due.UNKNOWN);
        midst("no such edge", x -> x.edge(5, 0), Due.UNKNOWN);
        midst("no such edge", x -> x.step(0, 5), Due.UNKNOWN);
        midst("no such searcher", x -> x.searcher(3, 0), Due.UNKNOWN);
        midst("no such searcher", x -> x.share(3, true), Due.UNKNOWN);
        midst("no such slot", x -> x.keep(2), Due.UNKNOWN);
        midst("no such slot", x -> x.again(2), Due.UNKNOWN);
    }

    private static void outside() {
        due.of("OUTSIDE (another number is not as told)");
        midst("a letter", x -> x.write(256), Due.OUTSIDE);
        midst("what", x -> x.ask(8), Due.OUTSIDE);
        midst("rounds", x -> x.see(21, 0), Due.OUTSIDE);
        midst("how many live", x -> x.luck(0, 5, true), Due.OUTSIDE);
        midst("how many times", x -> x.drawn(61), Due.OUTSIDE);
        midst("how many doings", x -> x.judge(5, 0), Due.OUTSIDE);
        midst("a row of doings", x -> x.judge(1, 1000), Due.OUTSIDE);
    }

    private static void state() {
        due.of("STATE (as told)");
        full("net() of a faulty text", DarkPlace::net, Due.STATE);
        midst("a step that can not be", x -> x.step(0, 1), Due.STATE);
        midst("hide() where the hole is", x -> x.hide(5), Due.STATE);
        due.refusedBeside("round() where none lives", Recipes::noneLives, DarkPlace::round, Due.STATE);
        due.refusedBeside("undo() of nothing", DarkPlace::new, DarkPlace::undo, Due.STATE);
        midst("share() of a swallowed one", x -> x.share(1, true), Due.STATE);
        midst("again() of what was not kept", x -> x.again(1), Due.STATE);
    }

    private static void full() {
        due.of("FULL (as told)");
        full("write()", x -> x.write('e'), Due.FULL);
        full("join()", DarkPlace::join, Due.FULL);
        full("see()", x -> x.see(0, 3), Due.FULL);
    }

    private static void refusedChangesNothing() {
        due.of("What is refused changes nothing");
        // The row has 14 acts: a refused act must not make it forget the first one.
        full("step() through an asked edge", x -> x.step(0, 4), Due.STATE);
        full("step() of a swallowed one", x -> x.step(1, 0), Due.STATE);
        full("step() of none", x -> x.step(4, 0), Due.UNKNOWN);
        full("join()", DarkPlace::join, Due.FULL);
        due.refusedBeside("round() where none lives, 14 acts", Recipes::noneLivesFull, DarkPlace::round, Due.STATE);
        full("hide() where it is", x -> x.hide(3), Due.STATE);
        full("hide() at home", x -> x.hide(0), Due.STATE);
        full("hide() nowhere", x -> x.hide(6), Due.UNKNOWN);
        full("net() of a faulty text", DarkPlace::net, Due.STATE);
        full("keep(2)", x -> x.keep(2), Due.UNKNOWN);
        full("again(2)", x -> x.again(2), Due.UNKNOWN);
        // A refused draw leaves the seed.
        DarkPlace x = Recipes.midst();
        due.is("drawn(61)", x.drawn(61), Due.OUTSIDE);
        due.is("drawn(0)", x.drawn(0), Due.OUTSIDE);
        due.is("the seed", x.seed(0), 77);
    }

    private static void noneIsMinusNine() {
        due.of("NONE is -9.");
        due.is("NONE", DarkPlace.NONE, -9);
        due.is("the place of a swallowed one", Recipes.midst().searcher(1, 0), -9);
        due.is("UNKNOWN", DarkPlace.UNKNOWN, -1);
        due.is("OUTSIDE", DarkPlace.OUTSIDE, -2);
        due.is("STATE", DarkPlace.STATE, -3);
        due.is("FULL", DarkPlace.FULL, -4);
    }

    private static void luck(DarkPlace x, int r, int v, int above, int below) {
        due.is("above of luck(" + r + ", " + v + ")", x.luck(r, v, true), above);
        due.is("below of luck(" + r + ", " + v + ")", x.luck(r, v, false), below);
    }

    private static void share(DarkPlace x, int searcher, int above, int below) {
        due.is("above of share(" + searcher + ")", x.share(searcher, true), above);
        due.is("below of share(" + searcher + ")", x.share(searcher, false), below);
    }

    private static void fractionsAboveAndBelow() {
        due.of("FRACTIONS are told above (upper = true), below");
        // A star of three edges, one searcher: of the holes at 1, 2, 3 only that at 1 swallows in the first round.
        luck(Due.told("N4031e01e02e03"), 1, 1, 2, 3);
        // With two searchers those at 1 and at 2 do.
        luck(Due.told("N4032e01e02e03"), 1, 2, 1, 3);
    }

    /**
     * Searcher 0 is out at 1 through edge 3 (0-1), whose both places are visited; 1 is at home. Edges 0: 0-2, 1: 2-1, 2: 0-3
     * are safe; 4: 1-6 leads to the hole, 5: 3-4 and 6: 3-5 do not.
     */
    private static DarkPlace oneThatHinders() {
        DarkPlace x = Due.told("N7062e02e21e03e01e16e34e35");
        Due.steps(x, "10", "10", "10", "11", "11", "10", "12", "12", "03");
        return x;
    }

    private static void fractionsLessThanNought() {
        due.of("less than 0, if they are");
        // 1 alone goes to 3 (one edge; 1 is two away), out and back twice: 2 more. 0 alone comes back, goes to 1, is swallowed:
        // 0 more. Both: edge 3 is safe, so 1 goes to place 1 and is swallowed; 0 follows there, comes home, goes to 3, out and
        // back: 1 more. So 0 has (0 + (1 - 2)) / 2, and 1 has (2 + (1 - 0)) / 2.
        share(oneThatHinders(), 0, -1, 2);
        share(oneThatHinders(), 1, 3, 2);
    }

    private static void fractionsInLeastTerms() {
        due.of("in least terms");
        // Four places have a fate, the holes at 1 and 2 swallow at once: 2/4.
        luck(Due.told("N5012e01e02"), 1, 2, 1, 2);
        // Three of three.
        luck(Due.told("N4031e01"), 0, 1, 1, 1);
        // Six places have a fate; those at 1, 2, 3, 4 swallow at once: 4/6 have fewer than four, 2/6 have four.
        luck(Due.told("N7014e01e02e03e04"), 1, 3, 1, 1);
        luck(Due.told("N7014e01e02e03e04"), 1, 4, 1, 3);
        // Three on a star whose hole is at 1: one alone finds nothing, two or three find both other places: 4/6 each.
        share(Due.told("N4013e01e02e03"), 0, 2, 3);
        // Alone each finds three places, two or more find all five: (6 * 3 + 6 * 2) / 24.
        share(Due.told("N8074e01e02e03e04e05"), 3, 5, 4);
    }

    private static void noughtIsNoughtAboveAndOneBelow() {
        due.of("(0 is 0 above, 1 below)");
        luck(Due.told("N4031e01e02e03"), 0, 2, 0, 1);
        luck(Due.told("N8031e01"), 20, 4, 0, 1);
        share(new DarkPlace(), 0, 0, 1);
        // Four on a net without edges.
        share(Due.told("N8074"), 2, 0, 1);
    }

    private static void refusalsOfFractions() {
        due.of("refusals of them are told likewise");
        for (boolean upper : new boolean[] {true, false}) {
            midst("share(3, " + upper + ")", x -> x.share(3, upper), Due.UNKNOWN);
            midst("share(-1, " + upper + ")", x -> x.share(-1, upper), Due.UNKNOWN);
            midst("share(1, " + upper + ")", x -> x.share(1, upper), Due.STATE);
            midst("luck(21, 0, " + upper + ")", x -> x.luck(21, 0, upper), Due.OUTSIDE);
            midst("luck(-1, 0, " + upper + ")", x -> x.luck(-1, 0, upper), Due.OUTSIDE);
            midst("luck(0, 5, " + upper + ")", x -> x.luck(0, 5, upper), Due.OUTSIDE);
            midst("luck(0, -1, " + upper + ")", x -> x.luck(0, -1, upper), Due.OUTSIDE);
        }
    }

    private static void placesOfLettersFromNought() {
        due.of("Places of letters (FAULT) are counted from 0 on");
        due.is("the first letter", Due.written("n2011").fault(), 0);
        due.is("the second letter", Due.written("N1011").fault(), 1);
        due.is("the sixth letter", Due.written("N2011x").fault(), 5);
    }

    private static void placesOfDoingsFromNought() {
        due.of("Places of doings (JUDGED) are counted from 0 on");
        DarkPlace x = Due.told("N3021e01e02");
        due.is("the first of one", x.judge(1, 302), 0);
        due.is("the first of four", x.judge(4, 302301301301L), 0);
        due.is("the second of four", x.judge(4, 301302301301L), 1);
        due.is("the third of four", x.judge(4, 301301302301L), 2);
        due.is("the fourth of four", x.judge(4, 301301301302L), 3);
    }

    private static void setsAreBits() {
        due.of("Sets are told as bits.");
        DarkPlace x = Due.told("N8071e03e05");
        Due.steps(x, "00", "00", "01", "01");
        due.is("visited are 0, 3, 5", x.ask(2), 1 + 8 + 32);
        due.is("the hole may be at 1, 2, 4, 6, 7", x.ask(3), 2 + 4 + 16 + 64 + 128);
        due.is("those have a fate", x.ask(7), 2 + 4 + 16 + 64 + 128);
        due.is("all of those are which()", x.which(), 2 + 4 + 16 + 64 + 128);
        due.is("edges 0 and 1", x.searcher(0, 2), 1 + 2);
    }
}
