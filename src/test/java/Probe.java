/** Calls everything there is to call on an object: two objects that answer all of it alike stand alike. */
final class Probe {
    private Probe() {
    }

    /** It changes the object in the end; some 330 calls, so that there is room for how the object came to stand (512). */
    static String everything(DarkPlace x) {
        StringBuilder all = new StringBuilder(Due.picture(x));
        askAll(x, all);
        drawAll(x, all);
        undoAll(x, all);
        for (int slot = 0; slot < 2; slot++) {
            all.append(" again=").append(x.again(slot)).append(brief(x));
        }
        writeAll(x, all);
        return all.toString();
    }

    private static void askAll(DarkPlace x, StringBuilder all) {
        for (int place = 0; place < 8; place++) {
            for (int what = 0; what < 3; what++) {
                all.append(" fate=").append(x.fate(place, what));
            }
        }
        for (int searcher = 0; searcher < 4; searcher++) {
            all.append(" share=").append(x.share(searcher, true)).append('/').append(x.share(searcher, false));
        }
        for (int rounds = 0; rounds < 4; rounds++) {
            all.append(" luck=").append(x.luck(rounds, 2, true)).append('/').append(x.luck(rounds, 2, false));
        }
        all.append(" judged=").append(x.judge(4, 200200200301L)).append(x.judge(2, 100100)).append(x.judge(1, 200));
    }

    private static void drawAll(DarkPlace x, StringBuilder all) {
        all.append(" drawn=").append(x.drawn(60)).append(" seed=").append(x.seed(4));
    }

    private static void undoAll(DarkPlace x, StringBuilder all) {
        for (int left = x.undo(); left >= 0; left = x.undo()) {
            all.append(" undo=").append(left).append(brief(x));
        }
    }

    /** The letters show by what can come behind them, and by the net that they are. */
    private static void writeAll(DarkPlace x, StringBuilder all) {
        all.append(" net=").append(x.net()).append(brief(x)).append(" write=").append(x.write('e'));
        all.append(x.write('0')).append(" fault=").append(x.fault()).append(" wipe=").append(x.wipe());
    }

    private static String brief(DarkPlace x) {
        StringBuilder some = new StringBuilder(" [");
        for (int searcher = 0; searcher < 4; searcher++) {
            some.append(x.searcher(searcher, 0)).append(',');
        }
        some.append(x.ask(1)).append(',').append(x.ask(2)).append(',').append(x.count(5));
        for (int searcher = 0; searcher < 3; searcher++) {
            some.append(',').append(x.searcher(searcher, 2));
        }
        return some.append(']').toString();
    }
}
