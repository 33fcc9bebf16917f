/** Promises 8 to 12: step, round, join, hide, undo. */
public final class ActPromisesTest {
    private static final Due due = new Due();

    public static void main(String[] args) {
        step();
        stepsThatCanNotBe();
        stepWhenTheHoleIsKnown();
        swallowed();
        round();
        roundInWhichTheHoleBecomesKnown();
        join();
        hide();
        undo();
        fourteenActs();
        thirtyActsUndone();
        due.end();
    }

    private static void step() {
        DarkPlace x = Due.told("N4032e01e12e23");
        due.is("out", x.step(0, 0), 1);
        due.is("asked", x.edge(0, 2), 1);
        due.is("an asked place is not visited", x.ask(2), 0b0001);
        due.is("back", x.step(0, 0), 0);
        due.is("safe", x.edge(0, 2), 2);
        due.is("not out any more", x.searcher(0, 1), Due.NONE);
        due.is("both ends are visited", x.ask(2), 0b0011);
        due.is("through a safe edge", x.step(1, 0), 1);
        due.is("not out through a safe edge", x.searcher(1, 1), Due.NONE);
        due.is("it stays safe", x.edge(0, 2), 2);
        due.is("and back", x.step(1, 0), 0);
        due.is("moves", x.ask(1), 4);
        due.is("acts", x.count(6), 4);
    }

    private static void stepsThatCanNotBe() {
        DarkPlace x = Due.told("N4032e01e12e23");
        due.refused("step(2, 0)", x, () -> x.step(2, 0), Due.UNKNOWN);
        due.refused("step(-1, 0)", x, () -> x.step(-1, 0), Due.UNKNOWN);
        due.refused("step(0, 3)", x, () -> x.step(0, 3), Due.UNKNOWN);
        due.refused("step(0, -1)", x, () -> x.step(0, -1), Due.UNKNOWN);
        due.refused("step(9, 9)", x, () -> x.step(9, 9), Due.UNKNOWN);
        due.refused("an edge elsewhere", x, () -> x.step(0, 1), Due.STATE);
        Due.steps(x, "00");
        due.refused("another through an asked edge", x, () -> x.step(1, 0), Due.STATE);
        due.refused("out, through an unseen edge", x, () -> x.step(0, 1), Due.STATE);
        due.refused("out, a searcher that is none", x, () -> x.step(2, 1), Due.UNKNOWN);

        // Out at 2 through edge 1, where the safe edge 2 ends too.
        DarkPlace y = Due.told("N5042e01e02e12");
        Due.steps(y, "00", "00", "00", "02", "02", "11");
        due.is("edge 2 is safe", y.edge(2, 2), 2);
        due.refused("out, through a safe edge", y, () -> y.step(1, 2), Due.STATE);
    }

    private static void stepWhenTheHoleIsKnown() {
        DarkPlace x = Due.told("N4032e01e02e12e03");
        Due.steps(x, "00", "00", "01", "01");
        due.is("known", x.ask(4), 1);
        due.refused("to where the hole is known to be", x, () -> x.step(0, 3), Due.STATE);
        Due.steps(x, "00");
        due.is("an unseen edge that does not end there", x.step(0, 2), 2);
        due.is("and back", x.step(0, 2), 1);
        due.is("now it is safe", x.edge(2, 2), 2);
    }

    private static void swallowed() {
        DarkPlace x = Due.told("N4033e03e01e13");
        due.is("swallowed", x.step(0, 0), Due.NONE);
        due.is("moves", x.ask(1), 1);
        due.is("those that live", x.ask(0), 2);
        due.is("the edge stays asked", x.edge(0, 2), 1);
        due.is("nothing more is visited", x.ask(2), 0b0001);
        due.refused("a step of a swallowed one", x, () -> x.step(0, 1), Due.STATE);
        due.refused("a step of a swallowed one back", x, () -> x.step(0, 0), Due.STATE);
        due.refused("another through that edge", x, () -> x.step(1, 0), Due.STATE);
        Due.steps(x, "11", "11", "11");
        due.is("a second one through another edge", x.step(1, 2), Due.NONE);
        due.is("those that live", x.ask(0), 1);
        due.is("that edge stays asked", x.edge(2, 2), 1);
        due.is("searchers in all", x.count(3), 3);
    }

    private static void round() {
        DarkPlace x = Due.told("N4032e01e12e23");
        int[] stepped = {1, 2, 2, 1, 0, 0};
        int[] moves = {1, 3, 5, 6, 6, 6};
        int[] visited = {0b0001, 0b0011, 0b0011, 0b0111, 0b0111, 0b0111};
        int[] first = {1, 0, 1, 1, 1, 1};
        int[] second = {0, 1, 2, 1, 1, 1};
        for (int i = 0; i < 6; i++) {
            due.is("round " + (i + 1), x.round(), stepped[i]);
            due.is("moves behind round " + (i + 1), x.ask(1), moves[i]);
            due.is("visited behind round " + (i + 1), x.ask(2), visited[i]);
            due.is("place of 0 behind round " + (i + 1), x.searcher(0, 0), first[i]);
            due.is("place of 1 behind round " + (i + 1), x.searcher(1, 0), second[i]);
            due.is("acts behind round " + (i + 1), x.count(6), i + 1);
        }
        DarkPlace y = Due.told("N3011e01");
        due.is("a round that swallows", y.round(), 1);
        due.is("none lives", y.ask(0), 0);
        due.refused("a round when none lives", y, y::round, Due.STATE);
        y.join();
        due.is("a round in which all rest", y.round(), 0);
        due.is("it is an act too", y.count(6), 3);
    }

    private static void roundInWhichTheHoleBecomesKnown() {
        DarkPlace x = Due.told("N3022e01e02");
        Due.steps(x, "00");
        due.is("one comes back, the one behind it rests", x.round(), 1);
        due.is("known", x.ask(4), 1);
        due.is("both live", x.ask(0), 2);
        due.is("the other edge is unseen", x.edge(1, 2), 0);

        DarkPlace y = Due.told("N4033e01e02e12e03");
        Due.steps(y, "20", "20", "01", "10", "12");
        due.is("two are out at one place", y.searcher(0, 0) * 10 + y.searcher(1, 0), 22);
        due.is("those that are out come back, the last rests", y.round(), 2);
        due.is("edge 1 is safe", y.edge(1, 2), 2);
        due.is("edge 2 is safe", y.edge(2, 2), 2);
        due.is("edge 3 is unseen", y.edge(3, 2), 0);
        due.is("all live", y.ask(0), 3);

        // Searchers go by number: 0 is swallowed, 1 sees the edge asked already.
        DarkPlace z = Due.told("N3012e01e02");
        due.is("each as all is then", z.round(), 2);
        due.is("0 is swallowed", z.searcher(0, 0), Due.NONE);
        due.is("1 is elsewhere", z.searcher(1, 0), 2);
    }

    private static void join() {
        DarkPlace x = Due.told("N4131e10");
        Due.steps(x, "00");
        due.is("a second", x.join(), 1);
        due.is("it is at home", x.searcher(1, 0), 1);
        due.is("it is not out", x.searcher(1, 1), Due.NONE);
        due.is("it lives", x.ask(0), 2);
        due.is("a third", x.join(), 2);
        due.is("a fourth", x.join(), 3);
        due.is("searchers", x.count(3), 4);
        due.is("acts", x.count(6), 4);
        due.is("moves", x.ask(1), 1);
        due.refused("a fifth", x, x::join, Due.FULL);
        due.refused("a fifth to four from the text", x, x::join, Due.FULL);

        DarkPlace y = Due.told("N2014");
        due.refused("a fifth", y, y::join, Due.FULL);

        // A number that a swallowed or an undone one has left holds nothing of it.
        DarkPlace z = Due.told("N3021e02");
        z.join();
        Due.steps(z, "10");
        z.undo();
        z.undo();
        due.is("one joins anew", z.join(), 1);
        due.is("it lives", z.searcher(1, 0), 0);
    }

    private static void hide() {
        DarkPlace x = Due.told("N5032e01e12e23");
        Due.steps(x, "00");
        due.refused("hide(5)", x, () -> x.hide(5), Due.UNKNOWN);
        due.refused("hide(-1)", x, () -> x.hide(-1), Due.UNKNOWN);
        due.refused("where it is", x, () -> x.hide(3), Due.STATE);
        due.refused("at home", x, () -> x.hide(0), Due.STATE);
        due.refused("where a searcher is", x, () -> x.hide(1), Due.STATE);
        due.is("hide(2)", x.hide(2), 3);
        due.is("where it is now", x.count(5), 2);
        due.is("acts", x.count(6), 2);
        due.is("moves", x.ask(1), 1);
        due.is("hide(4)", x.hide(4), 2);
        Due.steps(x, "00");
        due.refused("where it may not be any more", x, () -> x.hide(1), Due.STATE);
        due.is("back to 3", x.hide(3), 4);
        Due.steps(x, "00", "01");
        due.is("2 does not swallow any more", x.searcher(0, 0), 2);
        Due.steps(x, "01", "01");
        due.is("but 3 does", x.step(0, 2), Due.NONE);

        DarkPlace y = Due.told("N3012e01");
        Due.steps(y, "00");
        due.is("away from where one was swallowed", y.hide(2), 1);
        due.is("and back: a swallowed one is nowhere", y.hide(1), 2);
    }

    private static void undo() {
        DarkPlace x = Due.told("N5032e01e12e23");
        String[] stood = new String[8];
        for (int i = 0; i < 7; i++) {
            stood[i] = Due.standing(x);
            switch (i) {
                case 0: case 1: Due.steps(x, "00"); break;
                case 2: x.join(); break;
                case 3: x.round(); break;
                case 4: x.hide(2); break;
                case 5: Due.steps(x, "10"); break;
                default: x.round(); break;
            }
        }
        due.is("acts", x.count(6), 7);
        for (int left = 6; left >= 0; left--) {
            due.is("undo()", x.undo(), left);
            due.same("all behind undo() with " + left + " left", Due.standing(x), stood[left]);
            due.is("acts", x.count(6), left);
        }
        due.refused("nothing to undo", x, x::undo, Due.STATE);

        DarkPlace y = Due.told("N3011e01");
        Due.steps(y, "00");
        due.is("a swallowed one", y.undo(), 0);
        due.is("lives again", y.searcher(0, 0), 0);
        due.is("its edge is unseen again", y.edge(0, 2), 0);
        y.step(0, 5);
        y.hide(1);
        due.is("what is refused is no act", y.count(6), 0);
        y.seed(9);
        y.see(1, 1);
        y.keep(0);
        y.drawn(3);
        y.judge(1, 200);
        y.write('x');
        due.is("other calls are no acts", y.count(6), 0);
    }

    private static void fourteenActs() {
        DarkPlace x = Due.told("N4032e01e12e23");
        x.hide(2);
        Due.rounds(x, 1);
        String behindTwo = Due.standing(x);
        Due.rounds(x, 12);
        due.is("fourteen acts", x.count(6), 14);
        Due.rounds(x, 1);
        due.is("still fourteen", x.count(6), 14);
        due.is("one more", x.join(), 2);
        due.is("fourteen again", x.count(6), 14);
        for (int left = 13; left >= 0; left--) {
            due.is("undo()", x.undo(), left);
        }
        due.same("the first two acts are forgotten", Due.standing(x), behindTwo);
        due.refused("and can not be undone", x, x::undo, Due.STATE);
        due.is("the hole stays hidden", x.count(5), 2);
    }

    private static void thirtyActsUndone() {
        DarkPlace x = Due.told("N4032e01e12e23");
        String[] stood = new String[31];
        for (int act = 0; act < 30; act++) {
            stood[act] = Due.standing(x);
            Due.steps(x, "00");
        }
        for (int left = 13; left >= 0; left--) {
            due.is("undo()", x.undo(), left);
            due.same("all with " + left + " acts left", Due.standing(x), stood[16 + left]);
        }
        due.is("the first sixteen are forgotten", x.undo(), Due.STATE);
    }
}
