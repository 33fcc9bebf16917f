import java.util.function.LongSupplier;
import java.util.function.Supplier;
import java.util.function.ToLongFunction;

/** Counts the answers that are not as due, and ends a test with 1 if there was one. */
final class Due {
    static final int UNKNOWN = -1, OUTSIDE = -2, STATE = -3, FULL = -4, NONE = -9;

    private int right = 0;
    private int wrong = 0;
    private String sentence = "";
    private int sentences = 0;
    private int answersOfSentence = 0;

    /** The answers from here on, up to the next call of this, speak for that sentence of the document. */
    void of(String next) {
        sentenceHasAnswers();
        sentence = next;
        sentences++;
        answersOfSentence = 0;
    }

    private void sentenceHasAnswers() {
        if (sentences > 0 && answersOfSentence == 0) {
            wrong++;
            System.out.println("[" + sentence + "] has no test");
        }
    }

    private void count(boolean isRight, String what) {
        answersOfSentence++;
        if (isRight) {
            right++;
        } else {
            wrong++;
            System.out.println((sentence.isEmpty() ? "" : "[" + sentence + "] ") + what);
        }
    }

    void is(String what, long got, long want) {
        count(got == want, what + " answered " + got + ", due is " + want);
    }

    void same(String what, String got, String want) {
        count(got.equals(want), what + " gave " + got + ", due is " + want);
    }

    /** A refusal: every call behind it answers as on a twin of the object that was not asked. */
    void refusedBeside(String what, Supplier<DarkPlace> made, ToLongFunction<DarkPlace> call, long want) {
        DarkPlace x = made.get();
        is(what, call.applyAsLong(x), want);
        same("everything behind " + what, Probe.everything(x), Probe.everything(made.get()));
    }

    /** A refusal: the answer is as due, and nothing that can be asked is changed. */
    void refused(String what, DarkPlace x, LongSupplier call, long want) {
        String before = picture(x);
        is(what, call.getAsLong(), want);
        same("what is left behind " + what, picture(x), before);
    }

    void end() {
        sentenceHasAnswers();
        String of = sentences == 0 ? "" : " (" + sentences + " sentences)";
        System.out.println(right + " answers as due, " + wrong + " not" + of);
        if (wrong != 0) {
            System.exit(1);
        }
    }

    static DarkPlace written(String text) {
        DarkPlace x = new DarkPlace();
        rewrite(x, text);
        return x;
    }

    static void rewrite(DarkPlace x, String text) {
        x.wipe();
        for (char letter : text.toCharArray()) {
            x.write(letter);
        }
    }

    /** An object whose net the text is. */
    static DarkPlace told(String text) {
        DarkPlace x = written(text);
        if (x.net() < 0) {
            throw new IllegalStateException(text + " should be a net");
        }
        return x;
    }

    static void rounds(DarkPlace x, int rounds) {
        for (int i = 0; i < rounds; i++) {
            x.round();
        }
    }

    /** STEPS, each told as two figures: the searcher, the edge. */
    static void steps(DarkPlace x, String... steps) {
        for (String step : steps) {
            int searcher = step.charAt(0) - '0';
            int edge = step.charAt(1) - '0';
            int answer = x.step(searcher, edge);
            if (answer < 0 && answer != NONE) {
                throw new IllegalStateException("step " + step + " should be possible, answered " + answer);
            }
        }
    }

    /** How all stands: the hole, searchers, edges, moves and what follows from them. */
    static String standing(DarkPlace x) {
        StringBuilder all = new StringBuilder();
        for (int what = 0; what < 8; what++) {
            all.append(" ask").append(what).append('=').append(x.ask(what));
        }
        for (int what = 1; what <= 5; what++) {
            all.append(" count").append(what).append('=').append(x.count(what));
        }
        for (int searcher = 0; searcher < 4; searcher++) {
            for (int what = 0; what < 4; what++) {
                all.append(" s").append(searcher).append(what).append('=').append(x.searcher(searcher, what));
            }
        }
        for (int edge = 0; edge < 10; edge++) {
            for (int what = 0; what < 4; what++) {
                all.append(" e").append(edge).append(what).append('=').append(x.edge(edge, what));
            }
        }
        return all.toString();
    }

    /** How all stands, and the text, the row of acts, what is seen and the seed. */
    static String picture(DarkPlace x) {
        long seed = x.seed(0);
        x.seed(seed);
        return standing(x) + " text=" + x.count(0) + " fault=" + x.fault() + " acts=" + x.count(6) + " seen=" + x.count(7)
            + " which=" + x.which() + " seed=" + seed;
    }
}
