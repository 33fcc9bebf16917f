/** 'Terms', part 1, the end of it: the text, the net that it is, its fault; the row of acts. */
public final class TermsPart1TextTest {
    private static final Due due = new Due();
    private static final String TEN = "N8011e01e12e23e34e45e56e67e70e02e13";

    public static void main(String[] args) {
        textIsNeverMoreThanForty();
        netBeginsWithN();
        placesOfANet();
        homeOfANet();
        holeOfANet();
        searchersOfANet();
        edgesOfANet();
        withoutBlanks();
        faultIsTheFirstLetter();
        faultWhateverCameBehind();
        itsLengthSetAside();
        anEleventhE();
        anEWhereNoTwoPlacesAreLeft();
        aFirstPlaceOfNoneSuch();
        itsLengthIfItIsOnlyNotAtItsEnd();
        noneIfThereIsNone();
        actsAreSteps();
        actsAreRounds();
        actsAreJoined();
        joinedIsOneBehindAllAtHome();
        actsAreHidden();
        hiddenIsAtAnotherPlace();
        hiddenWhereItMayBe();
        hiddenWhereNoSearcherIs();
        neverMoreThanFourteen();
        theFirstIsForgottenAheadOfTheNext();
        theLastOneCanBeUndone();
        eachThatIsNotRefusedIsAnAct();
        due.end();
    }

    private static void fault(String text, int want) {
        due.is("fault() of '" + text + "'", Due.written(text).fault(), want);
    }

    private static void textIsNeverMoreThanForty() {
        due.of("THE TEXT is letters (never more than 40).");
        DarkPlace x = new DarkPlace();
        for (int length = 1; length <= 40; length++) {
            due.is("letter " + length, x.write(length % 256), length);
        }
        due.is("one more", x.write(1), Due.FULL);
        due.is("still forty", x.count(0), 40);
        due.is("wiped", x.wipe(), 40);
        due.is("room again", x.write(1), 1);
    }

    private static void netBeginsWithN() {
        due.of("A NET is a TEXT: N");
        fault("M2011", 0);
        fault("O2011", 0);
        fault("n2011", 0);
        fault("2011", 0);
        for (char letter = 0; letter < 256; letter++) {
            fault(letter + "2011", letter == 'N' ? Due.NONE : 0);
        }
    }

    private static void placesOfANet() {
        due.of("n (2 to 8)");
        for (char letter = 0; letter < 256; letter++) {
            fault("N" + letter + "011", letter >= '2' && letter <= '8' ? Due.NONE : 1);
        }
    }

    private static void homeOfANet() {
        due.of("HOME [..] (a figure each, PLACES that there are");
        // The hole is 1, or 0 where home is 1; there are two, five or eight places.
        for (int places : new int[] {2, 5, 8}) {
            for (int home = 0; home < 10; home++) {
                fault("N" + places + home + (home == 1 ? "0" : "1") + "1", home < places ? Due.NONE : 2);
            }
        }
        for (char letter = 0; letter < 256; letter++) {
            fault("N6" + letter + (letter == '1' ? "0" : "1") + "1", letter >= '0' && letter <= '5' ? Due.NONE : 2);
        }
    }

    private static void holeOfANet() {
        due.of("THE HOLE (a figure each, PLACES that there are, not one)");
        for (int places : new int[] {2, 5, 8}) {
            for (int hole = 0; hole < 10; hole++) {
                fault("N" + places + "1" + hole + "1", hole < places && hole != 1 ? Due.NONE : 3);
            }
        }
        for (char letter = 0; letter < 256; letter++) {
            fault("N63" + letter + "1", letter >= '0' && letter <= '5' && letter != '3' ? Due.NONE : 3);
        }
    }

    private static void searchersOfANet() {
        due.of("how many SEARCHERS (1 to 4)");
        for (char letter = 0; letter < 256; letter++) {
            fault("N801" + letter, letter >= '1' && letter <= '4' ? Due.NONE : 4);
        }
    }

    private static void edgesOfANet() {
        due.of("then EDGES, none or more: e, two PLACES (a figure each).");
        fault("N8011", Due.NONE);
        fault("N8011e01", Due.NONE);
        fault("N8011e01e12", Due.NONE);
        fault(TEN, Due.NONE);
        for (char letter = 0; letter < 256; letter++) {
            fault("N8011" + letter + "01", letter == 'e' ? Due.NONE : 5);
            fault("N3011e" + letter + (letter == '2' ? "1" : "2"), letter >= '0' && letter <= '2' ? Due.NONE : 6);
            fault("N4011e0" + letter, letter >= '1' && letter <= '3' ? Due.NONE : 7);
        }
        fault("N8011e01x", 8);
        fault("N8011e01e8", 9);
        fault("N8011e01e78", 10);
        fault("N8011e01e76", Due.NONE);
    }

    private static void withoutBlanks() {
        due.of("(Without blanks.)");
        fault(" N2011", 0);
        fault("N 2011", 1);
        fault("N2 011", 2);
        fault("N20 11", 3);
        fault("N201 1", 4);
        fault("N2011 ", 5);
        fault("N2011 e01", 5);
        fault("N2011e 01", 6);
        fault("N2011e0 1", 7);
        fault("N2011e01 ", 8);
    }

    private static void faultIsTheFirstLetter() {
        due.of("FAULT: the place of the first letter by which THE TEXT can be no NET");
        fault("N9955", 1);
        fault("N2955", 2);
        fault("N2055", 3);
        fault("N2015", 4);
        fault("N2011x00", 5);
        fault("N2011e22", 6);
        fault("N2011e00", 7);
        fault("N3011e01e01e00", 10);
    }

    private static void faultWhateverCameBehind() {
        due.of("whatever came behind it");
        String[] faulty = {"n", "N9", "N22", "N200", "N2010", "N2011x", "N2011e2", "N2011e00", "N3011e01e10"};
        for (String text : faulty) {
            for (String behind : new String[] {"", "0", "e01", "N2011", "x".repeat(40 - text.length())}) {
                fault(text + behind, text.length() - 1);
            }
        }
        // Such that may still be mended by what comes behind are no fault but their length.
        fault("N8011e0", 7);
        fault("N8011e", 6);
    }

    private static void itsLengthSetAside() {
        due.of("(its length set aside");
        // Ten edges are told by 35 letters; an e there can be no net for it is the eleventh, not for the room that is left.
        fault(TEN, Due.NONE);
        // An edge whose end would lie beyond 40 letters never comes about: the greatest net has 35.
        fault(TEN.substring(0, 33), 33);
        fault("x".repeat(40), 0);
        fault("N".repeat(40), 1);
    }

    private static void anEleventhE() {
        due.of("so an eleventh e");
        fault(TEN + "e", 35);
        fault(TEN + "e14", 35);
        fault(TEN + "e1414", 35);
        fault(TEN.substring(0, 32) + "e", 33);
        fault(TEN.substring(0, 32) + "e24", Due.NONE);
    }

    private static void anEWhereNoTwoPlacesAreLeft() {
        due.of("an e where no two PLACES without an EDGE are left");
        fault("N2011e01e", 8);
        fault("N2011e10e01", 8);
        fault("N3011e01e02e", 12);
        fault("N3011e01e02e12e", 14);
        fault("N4011e01e02e03e12e13e", 21);
        fault("N4011e01e02e03e12e13e23e", 23);
        fault("N5011e01e02e03e04e12e13e14e23e24e34", Due.NONE);
        fault("N5011e01e02e03e04e12e13e14e23e24e34e", 35);
    }

    private static void aFirstPlaceOfNoneSuch() {
        due.of("a first PLACE of none such)");
        fault("N3011e01e02e0", 12);
        fault("N3011e01e02e1", 13);
        fault("N3011e01e12e1", 12);
        fault("N3011e01e12e2", 13);
        fault("N4011e01e02e03e0", 15);
        fault("N4011e01e02e03e01", 15);
        fault("N4011e01e02e13e0", 16);
        fault("N4011e30e31e32e3", 15);
        fault("N8011e70e71e72e73e74e75e7", 25);
        fault("N8011e70e71e72e73e74e75e76e7", 27);
        fault("N8011e70e71e72e73e74e75e76e07", 28);
    }

    private static void itsLengthIfItIsOnlyNotAtItsEnd() {
        due.of("its length, if it is only not at its end");
        fault("", 0);
        for (int length = 0; length <= TEN.length(); length++) {
            boolean isNet = length >= 5 && (length - 5) % 3 == 0;
            fault(TEN.substring(0, length), isNet ? Due.NONE : length);
        }
        DarkPlace x = Due.told("N2011");
        x.wipe();
        due.is("an empty text behind wipe()", x.fault(), 0);
        due.is("it is no net", x.net(), Due.STATE);
    }

    private static void noneIfThereIsNone() {
        due.of("NONE: none.");
        fault("N2011", Due.NONE);
        fault("N8764", Due.NONE);
        fault("N2101e10", Due.NONE);
        DarkPlace x = Due.told(TEN);
        due.is("net() leaves it so", x.fault(), Due.NONE);
    }

    /** An act is one more in the row, and all is as ahead of it when it is undone. */
    private static void act(String what, DarkPlace x, Runnable act) {
        int acts = x.count(6);
        String before = Due.standing(x);
        act.run();
        due.is("the row behind " + what, x.count(6), acts + 1);
        due.is("it is another now", before.equals(Due.standing(x)) ? 1 : 0, 0);
        due.is("undo() of " + what, x.undo(), acts);
        due.same("all behind undo() of " + what, Due.standing(x), before);
    }

    private static void actsAreSteps() {
        due.of("ACTS (STEPS");
        DarkPlace x = Due.told("N4032e01e12e03");
        act("going out", x, () -> x.step(0, 0));
        x.step(0, 0);
        act("going back", x, () -> x.step(0, 0));
        x.step(0, 0);
        act("going through a safe edge", x, () -> x.step(1, 0));
        act("being swallowed", x, () -> x.step(1, 2));
    }

    private static void actsAreRounds() {
        due.of("ROUNDS");
        DarkPlace x = Due.told("N4032e01e12e23");
        for (int round = 0; round < 4; round++) {
            act("a round", x, x::round);
            x.round();
        }
        due.is("four rounds", x.count(6), 4);
        due.is("a fifth, in which all rest", x.round(), 0);
        due.is("is one more", x.count(6), 5);
        due.is("and can be undone", x.undo(), 4);
        DarkPlace y = Due.told("N3011e01");
        act("a round that swallows", y, y::round);
    }

    private static void actsAreJoined() {
        due.of("JOINED: one more SEARCHER");
        DarkPlace x = Due.told("N4131e10");
        act("a second", x, x::join);
        x.join();
        x.join();
        act("a fourth", x, x::join);
        // One that has joined, gone out, and is undone leaves nothing to the next.
        x.step(2, 0);
        x.undo();
        x.undo();
        due.is("a third anew", x.join(), 2);
        due.is("it is at home", x.searcher(2, 0), 1);
        due.is("it is not out", x.searcher(2, 1), Due.NONE);
    }

    private static void joinedIsOneBehindAllAtHome() {
        due.of("behind all, at HOME");
        DarkPlace x = Due.told("N4131e10");
        Due.steps(x, "00");
        due.is("a second", x.join(), 1);
        due.is("at home", x.searcher(1, 0), 1);
        due.is("not out", x.searcher(1, 1), Due.NONE);
        due.is("the first is where it was", x.searcher(0, 0), 0);
        // Behind a swallowed one too.
        DarkPlace y = Recipes.noneLives();
        due.is("behind a swallowed one", y.join(), 1);
        due.is("one lives", y.ask(0), 1);
        due.is("the first does not", y.searcher(0, 0), Due.NONE);
        due.is("the edge is asked still", y.edge(0, 2), 1);
    }

    private static void actsAreHidden() {
        due.of("HIDDEN: THE HOLE is");
        DarkPlace x = Due.told("N5032e01e12e23");
        act("hiding", x, () -> x.hide(4));
        due.is("where it was", x.hide(4), 3);
        due.is("where it is", x.count(5), 4);
        due.is("moves", x.ask(1), 0);
        Due.steps(x, "00", "00", "00", "01", "01", "01");
        due.is("3 does not swallow any more", x.step(0, 2), 3);
        DarkPlace y = Due.told("N4032e01");
        y.hide(1);
        due.is("1 swallows now", y.step(0, 0), Due.NONE);
    }

    private static void hiddenIsAtAnotherPlace() {
        due.of("at another PLACE");
        DarkPlace x = Due.told("N5032e01e12e23");
        due.is("where it is", x.hide(3), Due.STATE);
        due.is("the first place at which it may be", x.hide(1), 3);
        due.is("where it is now", x.hide(1), Due.STATE);
        due.is("where it was", x.hide(3), 1);
        due.is("the last place", x.hide(4), 3);
        due.is("there is no such", x.hide(5), Due.UNKNOWN);
        // Home is the last place, the hole may be at 0.
        DarkPlace y = Due.told("N5431");
        due.is("place 0", y.hide(0), 3);
        due.is("home", y.hide(4), Due.STATE);
    }

    private static void hiddenWhereItMayBe() {
        due.of("at which it MAY BE");
        DarkPlace x = Due.told("N5041e01e12");
        due.is("home", x.hide(0), Due.STATE);
        Due.steps(x, "00", "00");
        due.is("a visited place", x.hide(1), Due.STATE);
        due.is("one that is not visited", x.hide(2), 4);
        // Known: there is no other.
        due.is("two places", Due.told("N2011").hide(0), Due.STATE);
    }

    private static void hiddenWhereNoSearcherIs() {
        due.of("and where no SEARCHER is that LIVES)");
        DarkPlace x = Due.told("N5041e01e12");
        Due.steps(x, "00");
        due.is("where one is out", x.hide(1), Due.STATE);
        due.is("where none is", x.hide(2), 4);
        // A swallowed one is at no place: the hole may go and come again.
        DarkPlace y = Recipes.noneLives();
        due.is("away from where one was swallowed", y.hide(2), 1);
        due.is("and back", y.hide(1), 2);
    }

    private static void neverMoreThanFourteen() {
        due.of("are a row (never more than 14");
        DarkPlace x = Due.told("N4032e01e12e23");
        for (int act = 1; act <= 16; act++) {
            Due.steps(x, "00");
            due.is("the row", x.count(6), Math.min(act, 14));
        }
        due.is("one is undone", x.undo(), 13);
        due.is("the row", x.count(6), 13);
        x.round();
        due.is("fourteen again", x.count(6), 14);
    }

    private static void theFirstIsForgottenAheadOfTheNext() {
        due.of("if it has 14, the first one is forgotten ahead of the next)");
        // Odd steps lead to 1, even ones home: of 17 steps 14 can be undone, and three are left.
        DarkPlace x = Due.told("N4032e01e12e23");
        for (int act = 0; act < 17; act++) {
            Due.steps(x, "00");
        }
        for (int left = 13; left >= 0; left--) {
            due.is("undo()", x.undo(), left);
            due.is("moves", x.ask(1), left + 3);
            due.is("where it is", x.searcher(0, 0), (left + 3) % 2);
        }
        due.is("the first three can not be undone", x.undo(), Due.STATE);
        due.is("three steps stay", x.ask(1), 3);
        // Exactly fourteen: none is forgotten.
        DarkPlace y = Due.told("N4032e01e12e23");
        for (int act = 0; act < 14; act++) {
            Due.steps(y, "00");
        }
        for (int left = 13; left >= 0; left--) {
            due.is("undo()", y.undo(), left);
        }
        due.is("all is as at first", y.ask(1), 0);
        due.is("edge 0 is unseen", y.edge(0, 2), 0);
        for (String kind : new String[] {"step", "round", "join", "hide"}) {
            DarkPlace z = Due.told("N5041e01e12");
            for (int act = 0; act < 14; act++) {
                Due.steps(z, "00");
            }
            due.is("a fifteenth, " + kind, switch (kind) {
                case "step" -> z.step(0, 0);
                case "round" -> z.round();
                case "join" -> z.join();
                default -> z.hide(3) - 3;
            }, 1);
            due.is("the row behind " + kind, z.count(6), 14);
            for (int left = 13; left >= 0; left--) {
                due.is("undo()", z.undo(), left);
            }
            due.is("the first one stays behind " + kind, z.ask(1), 1);
        }
    }

    private static void theLastOneCanBeUndone() {
        due.of("the last one can be undone.");
        DarkPlace x = Due.told("N5042e01e12");
        String first = Due.standing(x);
        Due.steps(x, "00");
        String second = Due.standing(x);
        x.hide(3);
        String third = Due.standing(x);
        x.join();
        due.is("undo() of join()", x.undo(), 2);
        due.same("all behind it", Due.standing(x), third);
        due.is("undo() of hide()", x.undo(), 1);
        due.same("all behind it", Due.standing(x), second);
        due.is("undo() of step()", x.undo(), 0);
        due.same("all behind it", Due.standing(x), first);
        due.is("nothing is left", x.undo(), Due.STATE);
        // undo() is no act itself.
        due.is("the row", x.count(6), 0);
    }

    private static void eachThatIsNotRefusedIsAnAct() {
        due.of("Each that is not refused is an ACT.");
        DarkPlace x = Due.told("N5042e01e12");
        due.is("a step that can not be", x.step(0, 1), Due.STATE);
        due.is("a step of none", x.step(2, 0), Due.UNKNOWN);
        due.is("hiding where it is", x.hide(4), Due.STATE);
        due.is("hiding nowhere", x.hide(5), Due.UNKNOWN);
        due.is("no acts", x.count(6), 0);
        Due.steps(x, "00");
        due.is("a step", x.count(6), 1);
        x.round();
        due.is("a round", x.count(6), 2);
        x.join();
        due.is("one who joins", x.count(6), 3);
        x.hide(3);
        due.is("another hiding place", x.count(6), 4);
        x.join();
        due.is("a fifth", x.join(), Due.FULL);
        due.is("refused, so no act", x.count(6), 5);
        x.keep(0);
        x.judge(2, 200200);
        x.fate(2, 0);
        x.drawn(5);
        x.see(1, 1);
        x.which();
        x.write('x');
        x.wipe();
        due.is("other calls are no acts", x.count(6), 5);
        DarkPlace y = Recipes.noneLives();
        due.is("a round when none lives", y.round(), Due.STATE);
        due.is("refused, so no act", y.count(6), 1);
        DarkPlace z = new DarkPlace();
        due.is("a round in which all rest", z.round(), 0);
        due.is("is an act", z.count(6), 1);
    }
}
