/** Objects that stand in telling ways, made anew by each call: two of one recipe are twins. */
final class Recipes {
    private Recipes() {
    }

    /** Home 0, the hole 5; edges 0: 0-1, 1: 0-2, 2: 1-3, 3: 2-4, 4: 1-5; three searchers. */
    static final String TREE = "N6053e01e02e13e24e15";

    /**
     * On the tree: searcher 0 is at home, 1 is swallowed (through edge 4), 2 is out at 2 through edge 1; edge 0 is safe,
     * 2 and 3 are unseen; 5 moves, 5 acts. Slot 0 is kept (with 2 moves), slot 1 is not; two are seen; the seed is 77.
     */
    static DarkPlace midst() {
        DarkPlace x = Due.told(TREE);
        Due.steps(x, "00", "00");
        x.keep(0);
        Due.steps(x, "10", "14", "21");
        x.see(1, 2);
        x.see(2, 2);
        x.seed(77);
        return x;
    }

    /**
     * As in the midst, then a fourth joined, 2 came back, the hole went to 3, and 0 went to 1 and back three times: 14 acts,
     * 12 moves, 40 letters, six seen, both slots kept; all that live are at home.
     */
    static DarkPlace full() {
        DarkPlace x = midst();
        x.join();
        Due.steps(x, "21");
        x.hide(3);
        Due.steps(x, "00", "00", "00", "00", "00", "00");
        x.keep(1);
        for (int seen = 2; seen < 6; seen++) {
            x.see(1, 3);
        }
        while (x.count(0) < 40) {
            x.write('x');
        }
        return x;
    }

    /** As where none lives, but with 14 acts: the hole went to 2 and back six times, a round swallowed the only one, the hole is at 2. */
    static DarkPlace noneLivesFull() {
        DarkPlace x = Due.told("N3011e01");
        for (int turn = 0; turn < 6; turn++) {
            x.hide(2);
            x.hide(1);
        }
        x.round();
        x.hide(2);
        return x;
    }

    /** Home 0, the hole 1, edge 0 between them, a third place; the only searcher is swallowed: one move, one act. */
    static DarkPlace noneLives() {
        DarkPlace x = Due.told("N3011e01");
        Due.steps(x, "00");
        return x;
    }
}
