import java.util.ArrayList;
import java.util.List;
import java.util.Random;

/** Long runs of calls, drawn by fixed seeds: every answer of the program must be the oracle's. */
public final class RunsAgainstOracleTest {
    private static final int RUNS = 1500;
    private static final int MOST_CALLS = 512;
    private static int wrong = 0;

    private final Random random;
    private final DarkPlace program = new DarkPlace();
    private final Oracle oracle = new Oracle();
    private final List<String> calls = new ArrayList<>();
    private final int run;

    private RunsAgainstOracleTest(int run) {
        this.run = run;
        this.random = new Random(run);
    }

    public static void main(String[] args) {
        for (int run = 0; run < RUNS && wrong < 5; run++) {
            new RunsAgainstOracleTest(run).play();
        }
        System.out.println(wrong == 0 ? "all answers are the oracle's" : wrong + " runs differ from the oracle");
        if (wrong != 0) {
            System.exit(1);
        }
    }

    private boolean is(String call, long got, long due) {
        calls.add(call + " = " + got);
        if (got == due) {
            return true;
        }
        wrong++;
        int from = Math.max(0, calls.size() - 60);
        System.out.println("run " + run + ": due is " + due + " in the last of " + calls.subList(from, calls.size()));
        return false;
    }

    private void play() {
        boolean fine = true;
        while (fine && calls.size() < MOST_CALLS - 45) {
            fine = random.nextInt(60) == 0 || calls.isEmpty() ? tellText() : call();
        }
        if (fine) {
            askEverything();
        }
    }

    private boolean askEverything() {
        boolean fine = true;
        for (int what = 0; fine && what < 8; what++) {
            fine = is("ask(" + what + ")", program.ask(what), oracle.ask(what))
                && is("count(" + what + ")", program.count(what), oracle.count(what));
        }
        return fine;
    }

    private String drawText() {
        int n = 2 + random.nextInt(7);
        int home = random.nextInt(n);
        int hole = (home + 1 + random.nextInt(n - 1)) % n;
        StringBuilder told = new StringBuilder("N").append(n).append(home).append(hole).append(1 + random.nextInt(4));
        boolean connected = random.nextInt(4) != 0;
        int edges = random.nextInt(12);
        for (int i = 0; i < edges; i++) {
            int a = connected && i + 1 < n ? i + 1 : random.nextInt(n);
            int b = connected && i + 1 < n ? random.nextInt(i + 1) : random.nextInt(n);
            String edge = random.nextBoolean() ? "e" + a + b : "e" + b + a;
            if (random.nextInt(40) == 0 || Oracle.isNet(told + edge)) {
                told.append(edge);
            }
        }
        if (random.nextInt(6) == 0) {
            int at = random.nextInt(told.length());
            told.setCharAt(at, random.nextBoolean() ? (char) random.nextInt(256) : "Ne0123456789".charAt(random.nextInt(12)));
        }
        if (random.nextInt(10) == 0) {
            told.setLength(random.nextInt(told.length() + 1));
        }
        return told.toString();
    }

    private boolean tellText() {
        boolean fine = is("wipe()", program.wipe(), oracle.wipe());
        for (char letter : drawText().toCharArray()) {
            fine = fine && is("write(" + (int) letter + ")", program.write(letter), oracle.write(letter));
        }
        return fine && is("fault()", program.fault(), oracle.fault()) && is("net()", program.net(), oracle.net());
    }

    /** Mostly a number that there is, now and then one beside. */
    private int number(int bound) {
        if (random.nextInt(25) == 0) {
            return random.nextInt(8) == 0 ? random.nextInt() : random.nextInt(bound + 4) - 2;
        }
        return random.nextInt(Math.max(1, bound));
    }

    private long drawRow(int n) {
        long row = 0;
        for (int i = 0; i < n; i++) {
            int kind = random.nextInt(20) == 0 ? random.nextInt(10) : 1 + random.nextInt(7);
            int first = kind == 1 || kind >= 5 && kind <= 6 ? random.nextInt(4) : 0;
            int second = kind == 2 ? 0 : random.nextInt(kind == 6 ? 3 : kind == 3 ? 5 : 8);
            if (random.nextInt(25) == 0) {
                first = random.nextInt(10);
                second = random.nextInt(10);
            }
            row = row * 1000 + kind * 100 + first * 10 + second;
        }
        if (random.nextInt(40) == 0) {
            return random.nextBoolean() ? -row : row * 10;
        }
        return row;
    }

    private boolean call() {
        int pick = random.nextInt(100);
        if (pick < 45) {
            return act(pick);
        }
        if (pick < 62) {
            return look();
        }
        if (pick < 90) {
            return ask(pick);
        }
        return other();
    }

    private boolean act(int pick) {
        int s = number(oracle.now.walkers.size());
        int e = number(oracle.now.edges.size());
        int p = number(oracle.now.n);
        if (pick < 22) {
            int open = oracle.searcher(s, 2);
            if (open > 0 && random.nextInt(5) != 0) {
                do {
                    e = random.nextInt(10);
                } while ((open >> e & 1) == 0);
            }
            return is("step(" + s + ", " + e + ")", program.step(s, e), oracle.step(s, e));
        }
        if (pick < 34) {
            return is("round()", program.round(), oracle.round());
        }
        if (pick < 37) {
            return is("join()", program.join(), oracle.join());
        }
        if (pick < 40) {
            return is("hide(" + p + ")", program.hide(p), oracle.hide(p));
        }
        return is("undo()", program.undo(), oracle.undo());
    }

    private boolean look() {
        int s = number(oracle.now.walkers.size());
        int e = number(oracle.now.edges.size());
        int what = number(4);
        if (random.nextBoolean()) {
            return is("edge(" + e + ", " + what + ")", program.edge(e, what), oracle.edge(e, what));
        }
        return is("searcher(" + s + ", " + what + ")", program.searcher(s, what), oracle.searcher(s, what));
    }

    private boolean ask(int pick) {
        int p = number(oracle.now.n);
        int s = number(oracle.now.walkers.size());
        int what = number(8);
        int kind = number(3);
        int r = number(21);
        int v = number(5);
        boolean upper = random.nextBoolean();
        if (pick < 68) {
            return is("ask(" + what + ")", program.ask(what), oracle.ask(what));
        }
        if (pick < 73) {
            return is("fate(" + p + ", " + kind + ")", program.fate(p, kind), oracle.fate(p, kind));
        }
        if (pick < 79) {
            int n = random.nextInt(30) == 0 ? random.nextInt(8) - 1 : 1 + random.nextInt(4);
            long row = drawRow(Math.max(1, Math.min(n, 4)));
            return is("judge(" + n + ", " + row + ")", program.judge(n, row), oracle.judge(n, row));
        }
        if (pick < 81) {
            return is("see(" + r + ", " + v + ")", program.see(r, v), oracle.see(r, v));
        }
        if (pick < 84) {
            return is("which()", program.which(), oracle.which());
        }
        if (pick < 87) {
            return is("share(" + s + ", " + upper + ")", program.share(s, upper), oracle.share(s, upper));
        }
        return is("luck(" + r + ", " + v + ", " + upper + ")", program.luck(r, v, upper), oracle.luck(r, v, upper));
    }

    private boolean other() {
        int slot = number(2);
        int what = number(8);
        switch (random.nextInt(7)) {
            case 0:
                return is("keep(" + slot + ")", program.keep(slot), oracle.keep(slot));
            case 1:
                return is("again(" + slot + ")", program.again(slot), oracle.again(slot));
            case 2:
                return is("unsee()", program.unsee(), oracle.unsee());
            case 3:
                long v = random.nextLong();
                return is("seed(" + v + ")", program.seed(v), oracle.seed(v));
            case 4:
                int m = random.nextInt(10) == 0 ? random.nextInt(70) - 4 : 1 + random.nextInt(60);
                return is("drawn(" + m + ")", program.drawn(m), oracle.drawn(m));
            case 5:
                int letter = number(256);
                return is("write(" + letter + ")", program.write(letter), oracle.write(letter));
            default:
                return is("count(" + what + ")", program.count(what), oracle.count(what));
        }
    }
}
