import java.util.function.ToLongFunction;

/**
 * Promises 1 to 25: each refusal one too small and one too large, with the least and the greatest numbers there are; the last
 * values that are taken; two refusals at once; and behind each refused call every other call as ahead of it.
 */
public final class PromiseBoundsTest {
    private static final Due due = new Due();
    private static final int LEAST = Integer.MIN_VALUE;
    private static final int GREATEST = Integer.MAX_VALUE;

    public static void main(String[] args) {
        fiveHundredAndTwelveCalls();
        promise1NewObject();
        promise2Write();
        promise2WriteFull();
        promise3Wipe();
        promise4Fault();
        promise5Net();
        promise5NetState();
        promise6Edge();
        promise6EdgeRefused();
        promise7Searcher();
        promise7SearcherRefused();
        promise8Step();
        promise8StepRefused();
        promise9Round();
        promise10Join();
        promise11Hide();
        promise12Undo();
        promise13Ask();
        promise14Fate();
        promise15Judge();
        promise16See();
        promise17Unsee();
        promise18Which();
        promise19Share();
        promise20Luck();
        promise21Seed();
        promise22Drawn();
        promise23Keep();
        promise24Again();
        promise25Count();
        due.end();
    }

    /** Refused in the midst, when all is full, and, where it holds there too, on a new object. */
    private static void refused(String what, ToLongFunction<DarkPlace> call, long want) {
        due.refusedBeside(what + " in the midst", Recipes::midst, call, want);
        due.refusedBeside(what + " when all is full", Recipes::full, call, want);
    }

    private static void refusedAnywhere(String what, ToLongFunction<DarkPlace> call, long want) {
        refused(what, call, want);
        due.refusedBeside(what + " on a new object", DarkPlace::new, call, want);
    }

    private static void midst(String what, ToLongFunction<DarkPlace> call, long want) {
        due.refusedBeside(what + " in the midst", Recipes::midst, call, want);
    }

    private static void full(String what, ToLongFunction<DarkPlace> call, long want) {
        due.refusedBeside(what + " when all is full", Recipes::full, call, want);
    }

    private static void fresh(String what, ToLongFunction<DarkPlace> call, long want) {
        due.refusedBeside(what + " on a new object", DarkPlace::new, call, want);
    }

    private static void noneLives(String what, ToLongFunction<DarkPlace> call, long want) {
        due.refusedBeside(what + " where none lives", Recipes::noneLives, call, want);
    }

    private static void fiveHundredAndTwelveCalls() {
        due.of("An object is used for at most 512 calls after it has been made");
        // 15 calls tell the net, each of 496 goes to 1 or home; the last of 512 asks.
        String net = "N4032e01e12e23";
        DarkPlace x = new DarkPlace();
        int calls = 0;
        for (char letter : net.toCharArray()) {
            x.write(letter);
            calls++;
        }
        x.net();
        calls++;
        for (int step = 1; calls < 511; step++) {
            due.is("step " + step, x.step(0, 0), step % 2);
            calls++;
        }
        due.is("the 512th call: moves", x.ask(1), 496);
    }

    private static void promise1NewObject() {
        due.of("Promise 1: Two places, no edges.");
        DarkPlace x = new DarkPlace();
        int[] counts = {0, 2, 0, 1, 0, 1, 0, 0};
        int[] asked = {1, 0, 0b01, 0b10, 1, 1, 1, 0b10};
        for (int what = 0; what < 8; what++) {
            due.is("count(" + what + ")", x.count(what), counts[what]);
            due.is("ask(" + what + ")", x.ask(what), asked[what]);
        }
        int[] searcher = {0, Due.NONE, 0, Due.NONE};
        for (int what = 0; what < 4; what++) {
            due.is("searcher(0, " + what + ")", x.searcher(0, what), searcher[what]);
        }
        due.is("fault()", x.fault(), 0);
        due.is("net()", x.net(), Due.STATE);
        due.is("undo()", x.undo(), Due.STATE);
        due.is("again(0)", x.again(0), Due.STATE);
        due.is("again(1)", x.again(1), Due.STATE);
        due.is("seed(0)", x.seed(0), 0);
        due.is("round()", x.round(), 0);
        // Objects know nothing of one another: one made ahead of all that, one made behind it.
        DarkPlace early = new DarkPlace();
        Probe.everything(Recipes.full());
        due.same("two new objects", Probe.everything(early), Probe.everything(new DarkPlace()));
    }

    private static void promise2Write() {
        due.of("Promise 2: A letter (0 to 255) comes behind THE TEXT: how long it is. OUTSIDE");
        refusedAnywhere("write(-1)", x -> x.write(-1), Due.OUTSIDE);
        refusedAnywhere("write(256)", x -> x.write(256), Due.OUTSIDE);
        refusedAnywhere("write(least)", x -> x.write(LEAST), Due.OUTSIDE);
        refusedAnywhere("write(greatest)", x -> x.write(GREATEST), Due.OUTSIDE);
        // 256 more than a letter is none: only 0 to 255 are taken.
        refusedAnywhere("write(256 + 'N')", x -> x.write(256 + 'N'), Due.OUTSIDE);
        DarkPlace x = new DarkPlace();
        due.is("write(0)", x.write(0), 1);
        due.is("write(255)", x.write(255), 2);
        due.is("count(0)", x.count(0), 2);
        // Each letter comes behind the others: fault() walks on with them.
        DarkPlace y = new DarkPlace();
        String net = "N2011e01";
        for (int at = 0; at < net.length(); at++) {
            due.is("write()", y.write(net.charAt(at)), at + 1);
            due.is("fault()", y.fault(), at == 4 || at == 7 ? Due.NONE : at + 1);
        }
    }

    private static void promise2WriteFull() {
        due.of("Promise 2: FULL: there are 40.");
        full("write('e')", x -> x.write('e'), Due.FULL);
        full("write(0)", x -> x.write(0), Due.FULL);
        full("write(255)", x -> x.write(255), Due.FULL);
        full("write(256), two refusals", x -> x.write(256), Due.OUTSIDE);
        full("write(-1), two refusals", x -> x.write(-1), Due.OUTSIDE);
        DarkPlace x = Due.written("N".repeat(39));
        due.is("the fortieth", x.write('N'), 40);
        due.is("one more", x.write('N'), Due.FULL);
    }

    private static void promise3Wipe() {
        due.of("Promise 3: THE TEXT is empty: how long it was.");
        DarkPlace x = new DarkPlace();
        due.is("no letters", x.wipe(), 0);
        x.write('N');
        due.is("one letter", x.wipe(), 1);
        due.is("none any more", x.wipe(), 0);
        due.is("forty letters", Recipes.full().wipe(), 40);
        DarkPlace y = Recipes.midst();
        String before = Due.standing(y);
        due.is("the letters of the net", y.wipe(), 20);
        due.is("empty", y.count(0) * 10 + y.fault(), 0);
        due.same("the net stays", Due.standing(y), before);
        due.is("acts, what is seen, the seed stay", y.count(6) * 10000 + y.count(7) * 100 + y.seed(0), 50277);
        due.is("what is kept stays", y.again(0), 2);
        // What was there ahead of it does not come again.
        Due.rewrite(y, "N2011e01");
        y.wipe();
        Due.rewrite(y, "N2011");
        due.is("a shorter text", y.net(), 0);
    }

    private static void promise4Fault() {
        due.of("Promise 4: FAULT; NONE.");
        due.is("the least net", Due.written("N2011").fault(), Due.NONE);
        due.is("no text", new DarkPlace().fault(), 0);
        due.is("a full text", Recipes.full().fault(), 20);
        due.is("a net and a letter", Due.written("N2011N").fault(), 5);
        DarkPlace x = Recipes.midst();
        String before = Due.picture(x);
        due.is("the text of the net", x.fault(), Due.NONE);
        due.same("nothing is changed", Due.picture(x), before);
    }

    private static void promise5Net() {
        due.of("Promise 5: THE TEXT (that stays as it is) is THE NET (all SEARCHERS at HOME, EDGES UNSEEN, MOVES 0; THE ROW of ACTS "
            + "is empty, what was kept is gone; SEEN, THE SEED stay): how many EDGES.");
        DarkPlace x = Recipes.midst();
        x.keep(1);
        due.is("five edges", x.net(), 5);
        due.is("the text", x.count(0), 20);
        due.is("its fault", x.fault(), Due.NONE);
        for (int searcher = 0; searcher < 3; searcher++) {
            due.is("place of " + searcher, x.searcher(searcher, 0), 0);
            due.is("way out of " + searcher, x.searcher(searcher, 1), Due.NONE);
        }
        for (int edge = 0; edge < 5; edge++) {
            due.is("edge " + edge, x.edge(edge, 2), 0);
        }
        due.is("moves", x.ask(1), 0);
        due.is("visited", x.ask(2), 0b000001);
        due.is("acts", x.count(6), 0);
        due.is("undo()", x.undo(), Due.STATE);
        due.is("again(0)", x.again(0), Due.STATE);
        due.is("again(1)", x.again(1), Due.STATE);
        due.is("seen", x.count(7), 2);
        due.is("the seed", x.seed(0), 77);
        // The hole and how many searchers are as the text tells, whoever joined, wherever it was hidden.
        DarkPlace y = Due.told("N4031e01");
        y.join();
        y.hide(2);
        due.is("one edge", y.net(), 1);
        due.is("searchers", y.count(3), 1);
        due.is("the hole", y.count(5), 3);
        due.is("no edges", Due.written("N2011").net(), 0);
        // Of a greater net nothing is left.
        DarkPlace z = Due.told("N8704e70e71e72e73e74e75e76e01e12e23");
        Due.rewrite(z, "N3021e10");
        due.is("one edge again", z.net(), 1);
        due.is("places, edges, searchers, home", z.count(1) * 1000 + z.count(2) * 100 + z.count(3) * 10 + z.count(4), 3110);
        due.is("edges at home", z.searcher(0, 2), 0b1);
        Due.steps(z, "00");
        due.is("at 1 only back", z.searcher(0, 2), 0b1);
        Due.steps(z, "00", "00");
        due.is("at 1 only edge 0", z.searcher(0, 2), 0b1);
        due.is("edge 1 is gone", z.edge(1, 0), Due.UNKNOWN);
        due.is("searcher 1 is gone", z.searcher(1, 0), Due.UNKNOWN);
        // Edge 0 ended at home, 2; now it does not.
        DarkPlace w = Due.told("N3201e20");
        Due.rewrite(w, "N3201e01");
        w.net();
        due.is("no edge at home", w.searcher(0, 2), 0);
        due.is("it rests", w.searcher(0, 3), Due.NONE);
        due.is("ten edges", Due.written("N8011e01e12e23e34e45e56e67e70e02e13").net(), 10);
    }

    private static void promise5NetState() {
        due.of("Promise 5: STATE: a FAULT.");
        fresh("net() of no text", DarkPlace::net, Due.STATE);
        full("net() of a full text", DarkPlace::net, Due.STATE);
        due.refusedBeside("net() of a text that is only not at its end", () -> withLetters("e0"), DarkPlace::net, Due.STATE);
        due.refusedBeside("net() of a text with a letter too many", () -> withLetters("x"), DarkPlace::net, Due.STATE);
    }

    private static DarkPlace withLetters(String letters) {
        DarkPlace x = Recipes.midst();
        for (char letter : letters.toCharArray()) {
            x.write(letter);
        }
        return x;
    }

    private static void promise6Edge() {
        due.of("Promise 6: Of an EDGE the lesser PLACE (what = 0), the greater one (1), whether it is UNSEEN, ASKED, SAFE (2: 0, 1, 2), "
            + "the SEARCHER that is OUT through it (3; NONE).");
        int[][] edges = {{0, 1, 2, Due.NONE}, {0, 2, 1, 2}, {1, 3, 0, Due.NONE}, {2, 4, 0, Due.NONE}, {1, 5, 1, Due.NONE}};
        DarkPlace x = Recipes.midst();
        for (int edge = 0; edge < 5; edge++) {
            for (int what = 0; what < 4; what++) {
                due.is("edge(" + edge + ", " + what + ")", x.edge(edge, what), edges[edge][what]);
            }
        }
        DarkPlace y = Due.told("N8011e76e10");
        due.is("told with the greater one first", y.edge(0, 0) * 10 + y.edge(0, 1), 67);
        due.is("and 0", y.edge(1, 0) * 10 + y.edge(1, 1), 1);
    }

    private static void promise6EdgeRefused() {
        due.of("Promise 6: UNKNOWN; OUTSIDE.");
        for (int edge : new int[] {-1, 5, 10, 32, LEAST, GREATEST}) {
            refusedAnywhere("edge(" + edge + ", 0)", x -> x.edge(edge, 0), Due.UNKNOWN);
            refusedAnywhere("edge(" + edge + ", 4), two refusals", x -> x.edge(edge, 4), Due.UNKNOWN);
        }
        fresh("edge(0, 0)", x -> x.edge(0, 0), Due.UNKNOWN);
        for (int what : new int[] {-1, 4, LEAST, GREATEST}) {
            refused("edge(0, " + what + ")", x -> x.edge(0, what), Due.OUTSIDE);
            refused("edge(4, " + what + ")", x -> x.edge(4, what), Due.OUTSIDE);
            refused("edge(5, " + what + "), two refusals", x -> x.edge(5, what), Due.UNKNOWN);
        }
    }

    private static void promise7Searcher() {
        due.of("Promise 7: Of a SEARCHER its PLACE (what = 0; NONE: SWALLOWED), the EDGE through which it is OUT (1; NONE), EDGES (bits) "
            + "through which it can make a STEP now (2), the EDGE through which it would go, if a ROUND began with it now (3; NONE: it "
            + "rests, or is SWALLOWED).");
        // 0 is at home and would go to 1, where edge 2 is unseen.
        int[][] searchers = {{0, Due.NONE, 0b00001, 0}, {Due.NONE, Due.NONE, 0, Due.NONE}, {2, 1, 0b00010, 1}};
        DarkPlace x = Recipes.midst();
        for (int searcher = 0; searcher < 3; searcher++) {
            for (int what = 0; what < 4; what++) {
                due.is("searcher(" + searcher + ", " + what + ")", x.searcher(searcher, what), searchers[searcher][what]);
            }
        }
        DarkPlace y = new DarkPlace();
        due.is("it rests", y.searcher(0, 3), Due.NONE);
        // A round that begins with 1: 0 has not gone ahead of it.
        due.is("as if it were the first", Due.told("N4032e01e02").searcher(1, 3), 0);
        due.is("edge 9 is bit 9", Due.told("N8011e23e34e45e56e67e72e24e35e46e01").searcher(0, 2), 512);
    }

    private static void promise7SearcherRefused() {
        due.of("Promise 7: UNKNOWN; OUTSIDE.");
        for (int searcher : new int[] {-1, 4, LEAST, GREATEST}) {
            refusedAnywhere("searcher(" + searcher + ", 0)", x -> x.searcher(searcher, 0), Due.UNKNOWN);
            refusedAnywhere("searcher(" + searcher + ", 4), two refusals", x -> x.searcher(searcher, 4), Due.UNKNOWN);
        }
        midst("searcher(3, 0)", x -> x.searcher(3, 0), Due.UNKNOWN);
        fresh("searcher(1, 0)", x -> x.searcher(1, 0), Due.UNKNOWN);
        due.is("searcher(3, 0) of four", Recipes.full().searcher(3, 0), 0);
        for (int what : new int[] {-1, 4, LEAST, GREATEST}) {
            refusedAnywhere("searcher(0, " + what + ")", x -> x.searcher(0, what), Due.OUTSIDE);
            refused("searcher(1, " + what + ") of a swallowed one", x -> x.searcher(1, what), Due.OUTSIDE);
            midst("searcher(3, " + what + "), two refusals", x -> x.searcher(3, what), Due.UNKNOWN);
        }
    }

    private static void promise8Step() {
        due.of("Promise 8: A STEP: the PLACE where it is then; NONE: it is SWALLOWED.");
        DarkPlace x = Due.told("N4302e32e12e30");
        due.is("out to 2", x.step(0, 0), 2);
        due.is("back to 3", x.step(0, 0), 3);
        due.is("the last searcher through a safe edge", x.step(1, 0), 2);
        due.is("out to 1", x.step(1, 1), 1);
        due.is("swallowed at 0, through the last edge", Due.told("N4302e32e12e30").step(0, 2), Due.NONE);
        due.is("the fourth searcher, edge 9", Due.told("N8024e23e34e45e56e67e72e24e35e46e01").step(3, 9), 1);
    }

    private static void promise8StepRefused() {
        due.of("Promise 8: UNKNOWN: searcher, edge; STATE: it can not be.");
        for (int none : new int[] {-1, 4, LEAST, GREATEST}) {
            refusedAnywhere("step(" + none + ", 0)", x -> x.step(none, 0), Due.UNKNOWN);
        }
        for (int none : new int[] {-1, 5, 10, 32, LEAST, GREATEST}) {
            refusedAnywhere("step(0, " + none + ")", x -> x.step(0, none), Due.UNKNOWN);
            refusedAnywhere("step(" + none + ", " + none + ")", x -> x.step(none, none), Due.UNKNOWN);
            refused("step(1, " + none + ") of a swallowed one", x -> x.step(1, none), Due.UNKNOWN);
        }
        midst("step(3, 0)", x -> x.step(3, 0), Due.UNKNOWN);
        midst("step(3, 1), two refusals", x -> x.step(3, 1), Due.UNKNOWN);
        fresh("step(0, 0), no edges", x -> x.step(0, 0), Due.UNKNOWN);
        fresh("step(1, 0), one searcher", x -> x.step(1, 0), Due.UNKNOWN);
        midst("step(0, 1), an asked edge", x -> x.step(0, 1), Due.STATE);
        midst("step(0, 2), an edge elsewhere", x -> x.step(0, 2), Due.STATE);
        midst("step(1, 0), a swallowed one", x -> x.step(1, 0), Due.STATE);
        midst("step(1, 4), a swallowed one back", x -> x.step(1, 4), Due.STATE);
        midst("step(2, 3), out", x -> x.step(2, 3), Due.STATE);
        full("step(0, 2), an edge elsewhere", x -> x.step(0, 2), Due.STATE);
        full("step(3, 3), an edge elsewhere", x -> x.step(3, 3), Due.STATE);
        noneLives("step(0, 0)", x -> x.step(0, 0), Due.STATE);
        due.refusedBeside("step(0, 0), known", () -> Due.told("N2011e01"), x -> x.step(0, 0), Due.STATE);
    }

    private static void promise9Round() {
        due.of("Promise 9: A ROUND: how many SEARCHERS made a STEP. STATE: none LIVES.");
        // 0 goes to 1, 2 comes back.
        due.is("in the midst", Recipes.midst().round(), 2);
        // Edges 0 and 1 are safe: 0, 2 and 3 go to 1.
        due.is("when all is full", Recipes.full().round(), 3);
        due.is("all rest", new DarkPlace().round(), 0);
        due.is("four of them", Due.told("N5014e01e02e03e04").round(), 4);
        due.is("the only one is swallowed", Due.told("N3011e01").round(), 1);
        noneLives("round()", DarkPlace::round, Due.STATE);
        DarkPlace x = Recipes.noneLives();
        x.join();
        due.is("one who joined lives", x.round(), 0);
        due.refusedBeside("round(), two swallowed", PromiseBoundsTest::twoSwallowed, DarkPlace::round, Due.STATE);
    }

    private static DarkPlace twoSwallowed() {
        DarkPlace x = Due.told("N4012e01e02e21");
        Due.rounds(x, 4);
        return x;
    }

    private static void promise10Join() {
        due.of("Promise 10: JOINED: its number. FULL: there are 4.");
        DarkPlace x = new DarkPlace();
        due.is("a second", x.join(), 1);
        due.is("a third", x.join(), 2);
        due.is("a fourth", x.join(), 3);
        due.is("a fifth", x.join(), Due.FULL);
        full("join()", DarkPlace::join, Due.FULL);
        due.refusedBeside("join() to four that were told", () -> Due.told("N3014e01"), DarkPlace::join, Due.FULL);
        // Those that are swallowed are there as well.
        DarkPlace y = Due.told("N3014e01");
        Due.steps(y, "00");
        due.is("one of four is swallowed", y.join(), Due.FULL);
        y.undo();
        due.is("undone", y.join(), Due.FULL);
    }

    private static void promise11Hide() {
        due.of("Promise 11: HIDDEN: where THE HOLE was. UNKNOWN: place; STATE: it is there, it may not be there, or a SEARCHER is there.");
        for (int none : new int[] {-1, 6, 8, 32, 37, LEAST, GREATEST}) {
            refusedAnywhere("hide(" + none + ")", x -> x.hide(none), Due.UNKNOWN);
        }
        fresh("hide(2) of two", x -> x.hide(2), Due.UNKNOWN);
        midst("hide(5), it is there", x -> x.hide(5), Due.STATE);
        full("hide(3), it is there", x -> x.hide(3), Due.STATE);
        fresh("hide(1), it is there", x -> x.hide(1), Due.STATE);
        midst("hide(0), home", x -> x.hide(0), Due.STATE);
        midst("hide(1), visited", x -> x.hide(1), Due.STATE);
        midst("hide(2), one is out there", x -> x.hide(2), Due.STATE);
        fresh("hide(0), home", x -> x.hide(0), Due.STATE);
        due.is("hide(3)", Recipes.midst().hide(3), 5);
        due.is("hide(4)", Recipes.full().hide(4), 3);
        due.is("the last place", Recipes.full().hide(5), 3);
        due.is("the first place", Due.told("N8761").hide(0), 6);
    }

    private static void promise12Undo() {
        due.of("Promise 12: The last ACT is undone: how many are left. STATE: there is none.");
        fresh("undo()", DarkPlace::undo, Due.STATE);
        DarkPlace x = Recipes.midst();
        for (int left = 4; left >= 0; left--) {
            due.is("undo()", x.undo(), left);
        }
        due.is("one too many", x.undo(), Due.STATE);
        due.is("moves", x.ask(1), 0);
        DarkPlace y = Recipes.full();
        due.is("the last of fourteen", y.undo(), 13);
        due.refusedBeside("undo() behind again()", () -> goneOn(0), DarkPlace::undo, Due.STATE);
        due.refusedBeside("undo() behind net()", () -> withNetAnew(), DarkPlace::undo, Due.STATE);
        // What undo() leaves: letters, what is seen and kept, the seed.
        due.is("letters", y.count(0), 40);
        due.is("seen", y.count(7), 6);
        due.is("the seed", y.seed(0), 77);
        due.is("kept", y.again(1), 12);
    }

    private static DarkPlace goneOn(int slot) {
        DarkPlace x = Recipes.midst();
        x.again(slot);
        return x;
    }

    private static DarkPlace withNetAnew() {
        DarkPlace x = Recipes.midst();
        x.net();
        return x;
    }

    private static void promise13Ask() {
        due.of("Promise 13: How many LIVE (what = 0), MOVES (1), VISITED (2: bits), where THE HOLE MAY BE (3: bits), 1 if it is KNOWN, 0 "
            + "(4), WORST (5; NONE), FEWEST (6; NONE), PLACES that have a FATE (7: bits). OUTSIDE.");
        // Edges 2 and 3 are unseen, 4 is asked for good, so 5 is never visited. With the hole at 5: 0 to 1, 2 back; 0 out to 3, 2 to
        // 2; 0 back, 2 out to 4; 0 rests, 2 back: 4 rounds. At 3: 0 is swallowed, 4 visited, NONE. At 4: 2 is swallowed, NONE.
        int[] asked = {2, 5, 0b000011, 0b111100, 0, 3, Due.NONE, 0b111000};
        DarkPlace x = Recipes.midst();
        for (int what = 0; what < 8; what++) {
            due.is("ask(" + what + ")", x.ask(what), asked[what]);
        }
        due.is("rounds of 5", x.fate(5, 0), 4);
        for (int what : new int[] {-1, 8, LEAST, GREATEST}) {
            refusedAnywhere("ask(" + what + ")", y -> y.ask(what), Due.OUTSIDE);
        }
    }

    private static void promise14Fate() {
        due.of("Promise 14: FATE: ROUNDS (what = 0; NONE), MOVES (1), how many LIVE (2). UNKNOWN: place; OUTSIDE: what; STATE: it has none.");
        // As told at promise 13: 2 + 2 + 2 + 1 more moves.
        DarkPlace x = Recipes.midst();
        due.is("rounds of 5", x.fate(5, 0), 4);
        due.is("moves of 5", x.fate(5, 1), 12);
        due.is("living of 5", x.fate(5, 2), 2);
        due.is("the first place", Due.told("N2101").fate(0, 0), 0);
        due.is("the last place", Due.told("N8071e01").fate(7, 0), Due.NONE);
        for (int none : new int[] {-1, 6, 8, 32, 37, LEAST, GREATEST}) {
            refusedAnywhere("fate(" + none + ", 0)", y -> y.fate(none, 0), Due.UNKNOWN);
            refusedAnywhere("fate(" + none + ", 3), two refusals", y -> y.fate(none, 3), Due.UNKNOWN);
            refusedAnywhere("fate(" + none + ", -1), two refusals", y -> y.fate(none, -1), Due.UNKNOWN);
        }
        fresh("fate(2, 0) of two", y -> y.fate(2, 0), Due.UNKNOWN);
        for (int what : new int[] {-1, 3, LEAST, GREATEST}) {
            refused("fate(5, " + what + ")", y -> y.fate(5, what), Due.OUTSIDE);
            fresh("fate(1, " + what + ")", y -> y.fate(1, what), Due.OUTSIDE);
            refusedAnywhere("fate(0, " + what + "), two refusals", y -> y.fate(0, what), Due.OUTSIDE);
        }
        for (int what = 0; what < 3; what++) {
            int asked = what;
            refusedAnywhere("fate(0, " + what + "), home", y -> y.fate(0, asked), Due.STATE);
            refused("fate(1, " + what + "), visited", y -> y.fate(1, asked), Due.STATE);
            midst("fate(2, " + what + "), one is out there", y -> y.fate(2, asked), Due.STATE);
        }
    }

    private static void promise15Judge() {
        due.of("Promise 15: JUDGED; NONE. OUTSIDE: n, row (0 or more, 3 n figures at most).");
        for (int n : new int[] {0, 5, -1, LEAST, GREATEST}) {
            refusedAnywhere("judge(" + n + ", 0)", x -> x.judge(n, 0), Due.OUTSIDE);
            refusedAnywhere("judge(" + n + ", 302)", x -> x.judge(n, 302), Due.OUTSIDE);
            refusedAnywhere("judge(" + n + ", -1)", x -> x.judge(n, -1), Due.OUTSIDE);
        }
        long over = 1;
        for (int n = 1; n <= 4; n++) {
            over *= 1000;
            int doings = n;
            for (long row : new long[] {-1, over, Long.MIN_VALUE, Long.MAX_VALUE, Integer.MIN_VALUE, -over}) {
                refusedAnywhere("judge(" + n + ", " + row + ")", x -> x.judge(doings, row), Due.OUTSIDE);
            }
            due.is("the least row of " + n, Recipes.midst().judge(n, 0), 0);
            due.is("the greatest row of " + n, Recipes.midst().judge(n, over - 1), 0);
        }
        // 2^32 more than 302 would be 302 as an int.
        refusedAnywhere("judge(1, 2^32 + 302)", x -> x.judge(1, (1L << 32) + 302), Due.OUTSIDE);
        due.is("one that is so", Recipes.midst().judge(1, 302), Due.NONE);
        due.is("four that are so", Recipes.midst().judge(4, 302405522641L), Due.NONE);
        due.is("the last is not", Recipes.midst().judge(4, 302405522640L), 3);
    }

    private static void promise16See() {
        due.of("Promise 16: SEEN: how many there are. OUTSIDE: r (0 to 20), v (0 to 4); FULL: 6.");
        for (int r : new int[] {-1, 21, LEAST, GREATEST}) {
            refusedAnywhere("see(" + r + ", 0)", x -> x.see(r, 0), Due.OUTSIDE);
            refusedAnywhere("see(" + r + ", 4)", x -> x.see(r, 4), Due.OUTSIDE);
        }
        for (int v : new int[] {-1, 5, LEAST, GREATEST}) {
            refusedAnywhere("see(0, " + v + ")", x -> x.see(0, v), Due.OUTSIDE);
            refusedAnywhere("see(20, " + v + ")", x -> x.see(20, v), Due.OUTSIDE);
            refusedAnywhere("see(21, " + v + ")", x -> x.see(21, v), Due.OUTSIDE);
        }
        full("see(0, 0)", x -> x.see(0, 0), Due.FULL);
        full("see(20, 4)", x -> x.see(20, 4), Due.FULL);
        full("see(0, 4)", x -> x.see(0, 4), Due.FULL);
        full("see(20, 0)", x -> x.see(20, 0), Due.FULL);
        DarkPlace x = new DarkPlace();
        due.is("see(0, 0)", x.see(0, 0), 1);
        due.is("see(20, 4)", x.see(20, 4), 2);
        due.is("see(0, 4)", x.see(0, 4), 3);
        due.is("see(20, 0)", x.see(20, 0), 4);
        due.is("the fifth", x.see(1, 1), 5);
        due.is("the sixth, seen before", x.see(1, 1), 6);
        due.is("the seventh", x.see(1, 1), Due.FULL);
    }

    private static void promise17Unsee() {
        due.of("Promise 17: Nothing is SEEN: how much there was.");
        due.is("none", new DarkPlace().unsee(), 0);
        DarkPlace x = Recipes.midst();
        due.is("two", x.unsee(), 2);
        due.is("none any more", x.unsee(), 0);
        due.is("which(): all that have a fate", x.which(), 0b111000);
        due.is("six", Recipes.full().unsee(), 6);
        // All else stays.
        DarkPlace y = Recipes.midst();
        String before = Due.standing(y);
        y.unsee();
        due.same("all that stands", Due.standing(y), before);
        due.is("letters, acts, the seed", y.count(0) * 10000 + y.count(6) * 1000 + y.seed(0), 205077);
    }

    private static void promise18Which() {
        due.of("Promise 18: WHICH.");
        // Two live behind one round and behind two: not if the hole is at 3, where 0 is swallowed in the second.
        due.is("in the midst", Recipes.midst().which(), 0b110000);
        due.is("on a new object", new DarkPlace().which(), 0b10);
        // One of the first two that are seen is that two live behind one round; three do.
        due.is("when all is full", Recipes.full().which(), 0);
        due.is("where none lives", Recipes.noneLives().which(), 0b110);
        DarkPlace x = Recipes.midst();
        String before = Due.picture(x);
        x.which();
        due.same("nothing is changed", Due.picture(x), before);
    }

    private static void promise19Share() {
        due.of("Promise 19: SHARE. UNKNOWN; STATE: it is SWALLOWED.");
        for (boolean upper : new boolean[] {true, false}) {
            for (int none : new int[] {-1, 4, LEAST, GREATEST}) {
                refusedAnywhere("share(" + none + ", " + upper + ")", x -> x.share(none, upper), Due.UNKNOWN);
            }
            midst("share(3, " + upper + ")", x -> x.share(3, upper), Due.UNKNOWN);
            fresh("share(1, " + upper + ")", x -> x.share(1, upper), Due.UNKNOWN);
            refused("share(1, " + upper + ") of a swallowed one", x -> x.share(1, upper), Due.STATE);
            noneLives("share(0, " + upper + ")", x -> x.share(0, upper), Due.STATE);
            noneLives("share(1, " + upper + ")", x -> x.share(1, upper), Due.UNKNOWN);
        }
        // 0 alone: to 1, out to 3 and back: 1 more. 2 alone: back, to 1 (nearer to it than 2 by number), out to 3, back, home, to 2: 2
        // more. Both: 2 comes back, 0 finds 3, 2 finds 4: 3 more.
        DarkPlace x = Recipes.midst();
        due.is("above of share(0)", x.share(0, true), 1);
        due.is("below of share(0)", x.share(0, false), 1);
        due.is("above of share(2)", x.share(2, true), 2);
        due.is("below of share(2)", x.share(2, false), 1);
        due.is("the fourth", Due.told("N8074e01e02e03e04e05").share(3, true), 5);
    }

    private static void promise20Luck() {
        due.of("Promise 20: LUCK. OUTSIDE: r, v; STATE: no PLACE has a FATE. (STATE does not come about: the hole's place has one)");
        for (boolean upper : new boolean[] {true, false}) {
            for (int r : new int[] {-1, 21, LEAST, GREATEST}) {
                refusedAnywhere("luck(" + r + ", 0, " + upper + ")", x -> x.luck(r, 0, upper), Due.OUTSIDE);
                refusedAnywhere("luck(" + r + ", 4, " + upper + ")", x -> x.luck(r, 4, upper), Due.OUTSIDE);
            }
            for (int v : new int[] {-1, 5, LEAST, GREATEST}) {
                refusedAnywhere("luck(0, " + v + ", " + upper + ")", x -> x.luck(0, v, upper), Due.OUTSIDE);
                refusedAnywhere("luck(20, " + v + ", " + upper + ")", x -> x.luck(20, v, upper), Due.OUTSIDE);
                refusedAnywhere("luck(21, " + v + ", " + upper + ")", x -> x.luck(21, v, upper), Due.OUTSIDE);
            }
            due.is("luck(0, 0, " + upper + ")", Recipes.midst().luck(0, 0, upper), 1);
            due.is("luck(20, 0, " + upper + ")", Recipes.midst().luck(20, 0, upper), 1);
            due.is("luck(0, 4, " + upper + ")", Recipes.midst().luck(0, 4, upper), upper ? 0 : 1);
            due.is("luck(20, 4, " + upper + ")", Recipes.midst().luck(20, 4, upper), upper ? 0 : 1);
            // Of the holes at 3, 4, 5 the first two swallow one of the two that live.
            due.is("luck(20, 2, " + upper + ")", Recipes.midst().luck(20, 2, upper), upper ? 1 : 3);
            due.is("luck(2, 2, " + upper + ")", Recipes.midst().luck(2, 2, upper), upper ? 2 : 3);
        }
    }

    private static void promise21Seed() {
        due.of("Promise 21: THE SEED is v: what it was.");
        DarkPlace x = new DarkPlace();
        due.is("0 at first", x.seed(Long.MIN_VALUE), 0);
        due.is("the least", x.seed(Long.MAX_VALUE), Long.MIN_VALUE);
        due.is("the greatest", x.seed(-1), Long.MAX_VALUE);
        due.is("-1", x.seed(1L << 32), -1);
        due.is("2^32", x.seed(0), 1L << 32);
        due.is("0", x.seed(0), 0);
        DarkPlace y = Recipes.midst();
        String before = Due.standing(y);
        due.is("77", y.seed(5), 77);
        due.same("all else stays", Due.standing(y), before);
        due.is("acts", y.count(6), 5);
    }

    private static void promise22Drawn() {
        due.of("Promise 22: DRAWN. OUTSIDE: m.");
        for (int m : new int[] {0, 61, -1, LEAST, GREATEST}) {
            refusedAnywhere("drawn(" + m + ")", x -> x.drawn(m), Due.OUTSIDE);
        }
        due.is("drawn(1)", new DarkPlace().drawn(1), 1);
        due.is("drawn(60)", new DarkPlace().drawn(60), 60);
        due.is("drawn(60) of four", Due.told("N2014").drawn(60), 240);
        due.is("drawn(60) of none that lives", Recipes.noneLives().drawn(60), 0);
        // By 77: 3 through 7, 1 through 7, 0 through 3, 2 through 3, 3 through 8, 2 through 5: none of which can be.
        due.is("drawn(6)", Recipes.midst().drawn(6), 12);
    }

    private static void promise23Keep() {
        due.of("Promise 23: They are kept: MOVES. UNKNOWN.");
        for (int none : new int[] {-1, 2, LEAST, GREATEST}) {
            refusedAnywhere("keep(" + none + ")", x -> x.keep(none), Due.UNKNOWN);
        }
        due.is("keep(0) on a new object", new DarkPlace().keep(0), 0);
        due.is("keep(1) on a new object", new DarkPlace().keep(1), 0);
        DarkPlace x = Recipes.midst();
        String before = Due.picture(x);
        due.is("keep(1)", x.keep(1), 5);
        due.same("all else stays", Due.picture(x), before);
        due.is("keep(0) anew", x.keep(0), 5);
        x.undo();
        due.is("again(0)", x.again(0), 5);
        due.is("kept when none lives", Recipes.noneLives().keep(0), 1);
    }

    private static void promise24Again() {
        due.of("Promise 24: They are as they were kept: MOVES. UNKNOWN; STATE: none were kept.");
        for (int none : new int[] {-1, 2, LEAST, GREATEST}) {
            refusedAnywhere("again(" + none + ")", x -> x.again(none), Due.UNKNOWN);
        }
        fresh("again(0)", x -> x.again(0), Due.STATE);
        fresh("again(1)", x -> x.again(1), Due.STATE);
        midst("again(1)", x -> x.again(1), Due.STATE);
        noneLives("again(0)", x -> x.again(0), Due.STATE);
        due.refusedBeside("again(0) behind net()", PromiseBoundsTest::withNetAnew, x -> x.again(0), Due.STATE);
        due.is("again(0)", Recipes.midst().again(0), 2);
        DarkPlace x = Recipes.full();
        due.is("again(1)", x.again(1), 12);
        due.is("again(0)", x.again(0), 2);
        due.is("again(1) once more", x.again(1), 12);
        // Letters, what is seen, the seed and the slots stay.
        due.is("letters", x.count(0), 40);
        due.is("seen", x.count(7), 6);
        due.is("the seed", x.seed(0), 77);
        // As it was kept: 0 at home, edge 0 safe, all else as at first.
        DarkPlace y = Recipes.midst();
        y.again(0);
        DarkPlace z = Due.told(Recipes.TREE);
        Due.steps(z, "00", "00");
        due.same("all that stands", Due.standing(y), Due.standing(z));
    }

    private static void promise25Count() {
        due.of("Promise 25: 0 letters of THE TEXT, 1 PLACES, 2 EDGES, 3 SEARCHERS, 4 HOME, 5 THE HOLE, 6 ACTS in the row, 7 SEEN. OUTSIDE.");
        int[] inTheMidst = {20, 6, 5, 3, 0, 5, 5, 2};
        int[] full = {40, 6, 5, 4, 0, 3, 14, 6};
        for (int what = 0; what < 8; what++) {
            due.is("count(" + what + ") in the midst", Recipes.midst().count(what), inTheMidst[what]);
            due.is("count(" + what + ") when all is full", Recipes.full().count(what), full[what]);
        }
        due.is("home that is not 0", Due.told("N8761").count(4), 7);
        for (int what : new int[] {-1, 8, LEAST, GREATEST}) {
            refusedAnywhere("count(" + what + ")", x -> x.count(what), Due.OUTSIDE);
        }
    }
}
