/** Promises 1 to 7: a new object, write, wipe, fault, net, edge, searcher. */
public final class NetPromisesTest {
    private static final Due due = new Due();

    public static void main(String[] args) {
        newObject();
        write();
        wipe();
        faultInTheHead();
        faultInEdges();
        faultOfWhatIsLeft();
        net();
        netForgets();
        edge();
        searcher();
        cautionOfOneAlone();
        cautionChoosesTheNearest();
        due.end();
    }

    private static void newObject() {
        DarkPlace x = new DarkPlace();
        int[] counts = {0, 2, 0, 1, 0, 1, 0, 0};
        int[] asks = {1, 0, 0b01, 0b10, 1, 1, 1, 0b10};
        for (int what = 0; what < 8; what++) {
            due.is("count(" + what + ") of a new object", x.count(what), counts[what]);
            due.is("ask(" + what + ") of a new object", x.ask(what), asks[what]);
        }
        due.is("edge(0, 0) of a new object", x.edge(0, 0), Due.UNKNOWN);
        due.is("searcher(0, 0) of a new object", x.searcher(0, 0), 0);
        due.is("searcher(0, 1) of a new object", x.searcher(0, 1), Due.NONE);
        due.is("searcher(0, 2) of a new object", x.searcher(0, 2), 0);
        due.is("searcher(0, 3) of a new object", x.searcher(0, 3), Due.NONE);
        due.is("searcher(1, 0) of a new object", x.searcher(1, 0), Due.UNKNOWN);
        due.is("fault() of a new object", x.fault(), 0);
        due.is("undo() of a new object", x.undo(), Due.STATE);
        due.is("which() of a new object", x.which(), 0b10);
        due.is("again(0) of a new object", x.again(0), Due.STATE);
        due.is("again(1) of a new object", x.again(1), Due.STATE);
        due.is("seed(5) of a new object", x.seed(5), 0);
        due.is("fate(1, 0) of a new object", x.fate(1, 0), 0);
        due.is("constants", DarkPlace.UNKNOWN * 10000 + DarkPlace.OUTSIDE * 1000 + DarkPlace.STATE * 100
            + DarkPlace.FULL * 10 + DarkPlace.NONE, -12349);
    }

    private static void write() {
        DarkPlace x = new DarkPlace();
        due.refused("write(-1)", x, () -> x.write(-1), Due.OUTSIDE);
        due.refused("write(256)", x, () -> x.write(256), Due.OUTSIDE);
        due.refused("write(least int)", x, () -> x.write(Integer.MIN_VALUE), Due.OUTSIDE);
        due.refused("write(greatest int)", x, () -> x.write(Integer.MAX_VALUE), Due.OUTSIDE);
        due.is("write(0)", x.write(0), 1);
        due.is("write(255)", x.write(255), 2);
        for (int letters = 3; letters <= 40; letters++) {
            due.is("letter " + letters, x.write('N'), letters);
        }
        due.is("count(0) of a full text", x.count(0), 40);
        due.refused("write to a full text", x, () -> x.write('N'), Due.FULL);
        due.refused("write(256) to a full text", x, () -> x.write(256), Due.OUTSIDE);
        due.refused("write(-1) to a full text", x, () -> x.write(-1), Due.OUTSIDE);
    }

    private static void wipe() {
        DarkPlace x = new DarkPlace();
        due.is("wipe() of no text", x.wipe(), 0);
        Due.rewrite(x, "N2011");
        due.is("wipe() of five letters", x.wipe(), 5);
        due.is("wipe() again", x.wipe(), 0);
        due.is("count(0) behind wipe()", x.count(0), 0);
        Due.rewrite(x, "N".repeat(40));
        due.is("wipe() of a full text", x.wipe(), 40);
        due.is("write behind wipe()", x.write('N'), 1);

        DarkPlace y = Due.told("N3021e01");
        String before = Due.standing(y);
        y.wipe();
        due.same("the net behind wipe()", Due.standing(y), before);
    }

    private static void fault(String text, int want) {
        DarkPlace x = Due.written(text);
        due.is("fault() of '" + text + "'", x.fault(), want);
        String before = Due.picture(x);
        int answer = x.net();
        if (want == Due.NONE) {
            due.is("net() of '" + text + "'", answer, (text.length() - 5) / 3);
        } else {
            due.is("net() of '" + text + "'", answer, Due.STATE);
            due.same("what is left behind net() of '" + text + "'", Due.picture(x), before);
        }
    }

    private static void faultInTheHead() {
        fault("", 0);
        fault("n", 0);
        fault("M2011", 0);
        fault(" N2011", 0);
        fault("N", 1);
        fault("N0", 1);
        fault("N1011", 1);
        fault("N9011", 1);
        fault("Nx", 1);
        fault("N 2011", 1);
        fault("N2", 2);
        fault("N22", 2);
        fault("N8811", 2);
        fault("N8/11", 2);
        fault("N8:11", 2);
        fault("N20", 3);
        fault("N200", 3);
        fault("N202", 3);
        fault("N8771", 3);
        fault("N8781", 3);
        fault("N201", 4);
        fault("N2010", 4);
        fault("N2015", 4);
        fault("N201e", 4);
        fault("N2011", Due.NONE);
        fault("N2104", Due.NONE);
        fault("N8763", Due.NONE);
        fault("N20114", 5);
        fault("N2011x", 5);
        fault("N2011E01", 5);
        fault("N2011 ", 5);
        fault("x" + "N2011", 0);
        fault("N2011" + (char) 0, 5);
    }

    private static void faultInEdges() {
        fault("N2011e", 6);
        fault("N2011e2", 6);
        fault("N2011ee", 6);
        fault("N2011e0", 7);
        fault("N2011e00", 7);
        fault("N2011e02", 7);
        fault("N2011e0e", 7);
        fault("N2011e01", Due.NONE);
        fault("N2011e10", Due.NONE);
        fault("N3011e01,", 8);
        fault("N3011e01e0", 10);
        fault("N3011e01e01", 10);
        fault("N3011e01e10", 10);
        fault("N3011e01e12", Due.NONE);
        fault("N4011e10e20e01", 13);
        fault("N4011e10e20e30e0", 15);
        fault("N8011e77", 7);
        fault("N8011e76", Due.NONE);
        fault("N8011e78", 7);
        // The first fault counts, not the worst.
        fault("N3011e01e01x9", 10);
    }

    private static void faultOfWhatIsLeft() {
        fault("N2011e01e", 8);
        fault("N3011e01e02e12", Due.NONE);
        fault("N3011e01e02e12e", 14);
        fault("N3011e01e02e0", 12);
        fault("N3011e01e02e1", 13);
        fault("N4011e01e02e03e0", 15);
        fault("N4011e01e02e03e1", 16);
        fault("N4011e01e02e03e10", 16);
        fault("N4011e01e02e03e12e13e23", Due.NONE);
        fault("N4011e01e02e03e12e13e23e", 23);
        fault("N5011e01e02e03e04e12e13e14e23e24e34", Due.NONE);
        fault("N5011e01e02e03e04e12e13e14e23e24e34e", 35);
        fault("N8011e01e12e23e34e45e56e67e70e02e13", Due.NONE);
        fault("N8011e01e12e23e34e45e56e67e70e02e13e", 35);
        fault("N8011e01e12e23e34e45e56e67e70e02e13e1414", 35);
        fault("N8011e01e12e23e34e45e56e67e70e02e1", 34);
        fault("N8011" + "e01e12e23e34e45e56e67e70e02e13".substring(0, 29) + "1", 34);
        fault("N".repeat(40), 1);
    }

    private static void net() {
        DarkPlace x = Due.written("N6423e01e52e34");
        due.is("net()", x.net(), 3);
        int[] counts = {14, 6, 3, 3, 4, 2, 0, 0};
        for (int what = 0; what < 8; what++) {
            due.is("count(" + what + ") behind net()", x.count(what), counts[what]);
        }
        for (int searcher = 0; searcher < 3; searcher++) {
            due.is("place behind net()", x.searcher(searcher, 0), 4);
            due.is("out behind net()", x.searcher(searcher, 1), Due.NONE);
        }
        for (int edge = 0; edge < 3; edge++) {
            due.is("edge behind net()", x.edge(edge, 2), 0);
        }
        due.is("a fourth searcher behind net()", x.searcher(3, 0), Due.UNKNOWN);
        due.is("a fourth edge behind net()", x.edge(3, 0), Due.UNKNOWN);
        due.is("visited behind net()", x.ask(2), 0b010000);
        due.is("may be behind net()", x.ask(3), 0b101111);
        due.is("the text stays", x.fault(), Due.NONE);
        due.is("net() of a net without edges", Due.written("N8011").net(), 0);
        due.is("net() of ten edges", Due.written("N8011e01e12e23e34e45e56e67e70e02e13").net(), 10);
    }

    private static void netForgets() {
        DarkPlace x = Due.told("N4032e01e12e23");
        String first = Due.standing(x);
        x.see(3, 2);
        x.seed(77);
        Due.rounds(x, 3);
        x.hide(2);
        x.join();
        x.keep(0);
        x.keep(1);
        due.is("net() once more", x.net(), 3);
        due.same("all behind net()", Due.standing(x), first);
        due.is("moves behind net()", x.ask(1), 0);
        due.is("acts behind net()", x.count(6), 0);
        due.is("undo() behind net()", x.undo(), Due.STATE);
        due.is("again(0) behind net()", x.again(0), Due.STATE);
        due.is("again(1) behind net()", x.again(1), Due.STATE);
        due.is("seen behind net()", x.count(7), 1);
        due.is("seed behind net()", x.seed(0), 77);

        x.round();
        x.keep(1);
        x.write('x');
        due.refused("net() of a faulty text", x, x::net, Due.STATE);
        due.is("kept ones behind a refused net()", x.again(1), 1);
        Due.rewrite(x, "N2101e10");
        due.is("a smaller net", x.net(), 1);
        due.is("its places", x.count(1), 2);
        due.is("its lesser place", x.edge(0, 0), 0);
        due.is("its second edge", x.edge(1, 0), Due.UNKNOWN);
        due.is("its second searcher", x.searcher(1, 0), Due.UNKNOWN);
        due.same("all of it as on a new object", Due.standing(x), Due.standing(Due.told("N2101e10")));
        for (String text : new String[] {"N8074e01e12e23e34e45e56e67e70e02e13", "N5241e43e01", "N3011", "N4302e31e20e21e01"}) {
            Due.rewrite(x, text);
            x.net();
            due.same("another net, " + text, Due.standing(x), Due.standing(Due.told(text)));
        }
    }

    private static void edge() {
        DarkPlace x = Due.told("N4032e10e12e32");
        int[][] ends = {{0, 1}, {1, 2}, {2, 3}};
        for (int edge = 0; edge < 3; edge++) {
            due.is("edge(" + edge + ", 0)", x.edge(edge, 0), ends[edge][0]);
            due.is("edge(" + edge + ", 1)", x.edge(edge, 1), ends[edge][1]);
            due.is("edge(" + edge + ", 2)", x.edge(edge, 2), 0);
            due.is("edge(" + edge + ", 3)", x.edge(edge, 3), Due.NONE);
        }
        Due.steps(x, "10");
        due.is("an asked edge", x.edge(0, 2), 1);
        due.is("who is out through it", x.edge(0, 3), 1);
        due.is("who is out through another", x.edge(1, 3), Due.NONE);
        Due.steps(x, "10");
        due.is("a safe edge", x.edge(0, 2), 2);
        due.is("none is out any more", x.edge(0, 3), Due.NONE);
        Due.steps(x, "00", "01");
        due.is("the first searcher is out", x.edge(1, 3), 0);
        due.refused("edge(3, 0)", x, () -> x.edge(3, 0), Due.UNKNOWN);
        due.refused("edge(-1, 0)", x, () -> x.edge(-1, 0), Due.UNKNOWN);
        due.refused("edge(10, 9)", x, () -> x.edge(10, 9), Due.UNKNOWN);
        due.refused("edge(3, 4)", x, () -> x.edge(3, 4), Due.UNKNOWN);
        due.refused("edge(0, 4)", x, () -> x.edge(0, 4), Due.OUTSIDE);
        due.refused("edge(2, -1)", x, () -> x.edge(2, -1), Due.OUTSIDE);

        DarkPlace y = Due.told("N2011e01");
        due.is("the only edge of two places", y.edge(0, 0) * 10 + y.edge(0, 1), 1);
        DarkPlace z = Due.told("N3011e01");
        Due.steps(z, "00");
        due.is("the edge of a swallowed one", z.edge(0, 2), 1);
        due.is("none is out through it", z.edge(0, 3), Due.NONE);
    }

    private static void searcher() {
        DarkPlace x = Due.told("N4032e01e12e03");
        due.is("bits of edges at home", x.searcher(0, 2), 0b101);
        due.is("the least unseen edge", x.searcher(1, 3), 0);
        Due.steps(x, "00");
        due.is("place of one that is out", x.searcher(0, 0), 1);
        due.is("its edge", x.searcher(0, 1), 0);
        due.is("it can only go back", x.searcher(0, 2), 0b001);
        due.is("it would go back", x.searcher(0, 3), 0);
        due.is("an asked edge is closed to another", x.searcher(1, 2), 0b100);
        due.is("another would go elsewhere", x.searcher(1, 3), 2);
        Due.steps(x, "12");
        due.is("place of a swallowed one", x.searcher(1, 0), Due.NONE);
        due.is("edge of a swallowed one", x.searcher(1, 1), Due.NONE);
        due.is("bits of a swallowed one", x.searcher(1, 2), 0);
        due.is("caution of a swallowed one", x.searcher(1, 3), Due.NONE);
        due.refused("searcher(2, 0)", x, () -> x.searcher(2, 0), Due.UNKNOWN);
        due.refused("searcher(-1, 0)", x, () -> x.searcher(-1, 0), Due.UNKNOWN);
        due.refused("searcher(2, 4)", x, () -> x.searcher(2, 4), Due.UNKNOWN);
        due.refused("searcher(4, -1)", x, () -> x.searcher(4, -1), Due.UNKNOWN);
        due.refused("searcher(0, 4)", x, () -> x.searcher(0, 4), Due.OUTSIDE);
        due.refused("searcher(1, -1)", x, () -> x.searcher(1, -1), Due.OUTSIDE);
    }

    private static void cautionOfOneAlone() {
        DarkPlace x = Due.told("N4032e01e12e23");
        Due.steps(x, "00");
        due.is("nothing unseen can be come to", x.searcher(1, 3), Due.NONE);
        Due.steps(x, "00");
        due.is("towards the unseen edge", x.searcher(1, 3), 0);
        due.is("the same for another", x.searcher(0, 3), 0);
        Due.steps(x, "00");
        due.is("an unseen edge at its own place", x.searcher(0, 3), 1);
        due.is("bits: a safe and an unseen one", x.searcher(0, 2), 0b011);
        Due.steps(x, "01", "01");
        due.is("the hole is known", x.ask(4), 1);
        due.is("it rests then", x.searcher(0, 3), Due.NONE);
        Due.steps(x, "01");
        due.is("no step to where the hole is known to be", x.searcher(0, 2), 0b010);
    }

    private static void cautionChoosesTheNearest() {
        DarkPlace places = Due.told("N6051e02e01e13e24");
        Due.rounds(places, 4);
        due.is("of like near places the least", places.searcher(0, 3), 1);

        DarkPlace edges = Due.told("N6051e02e01e13e23e34");
        Due.steps(edges, "00", "00", "01", "01", "00", "03", "03", "00", "01", "02", "02", "01");
        due.is("back at home", edges.searcher(0, 0), 0);
        due.is("of edges that come nearer the least", edges.searcher(0, 3), 0);

        DarkPlace near = Due.told("N7061e04e02e21e13e45");
        Due.steps(near, "00", "00", "01", "01", "01", "02", "02", "01");
        due.is("back at home", near.searcher(0, 0), 0);
        due.is("the nearest comes ahead of the least", near.searcher(0, 3), 0);

        // The goal 3 lies behind 2 alone: the lesser safe edge, to 1, does not come nearer.
        DarkPlace way = Due.told("N6051e01e02e23e34");
        Due.steps(way, "00", "00", "01", "01", "01", "02", "02", "01");
        due.is("only an edge that comes nearer", way.searcher(0, 3), 1);

        // Home is 3, and all that is unseen is edge 0, at place 0.
        DarkPlace zero = Due.told("N5341e04e31e30");
        Due.steps(zero, "01", "01", "02", "02", "01");
        due.is("towards place 0 for edge 0", zero.searcher(0, 3), 1);
        Due.steps(zero, "01");
        due.is("and on", zero.searcher(0, 3), 2);

        // A long way back, to 0, where the only unseen edge is.
        DarkPlace far = Due.told("N8061e01e12e23e34e45e07");
        Due.steps(far, "00", "00", "00", "01", "01", "01", "02", "02", "02", "03", "03", "03", "04", "04", "04");
        due.is("five edges away", far.searcher(0, 0), 5);
        due.is("back by the last of them", far.searcher(0, 3), 4);
    }
}
