/** Random runs of calls on a checker and on the model beside it: each answer is the same. */
public final class ModelTest {
    private static final Expect EXPECT = new Expect("ModelTest");
    private static final int RUNS = 5000;
    private static final int CALLS = 512;
    private static final int[] ODD = {-1, Integer.MIN_VALUE, Integer.MAX_VALUE, 400, 401, 5, 9, 10, 12, 16};

    private static long seed = 20261119L;

    private final FairChecker checker = new FairChecker();
    private final Model model = new Model();
    private final int run;
    private final int processes;
    private final int variables;
    private final int hands;
    private final int guards;
    private final int deeds;
    private final boolean isWild;
    private final int[] sizes = new int[5];

    // How often something was met that the runs are there for.
    private static int large;
    private static int tooLarge;
    private static int badLeads;
    private static int goodLeads;
    private static int someTrapped;
    private static int longWays;

    private ModelTest(int run) {
        this.run = run;
        processes = 1 + below(5);
        variables = below(5);
        hands = below(10);
        guards = below(3);
        deeds = below(3);
        isWild = below(4) == 0;
    }

    public static void main(String[] args) {
        for (int run = 0; run < RUNS; run++) {
            new ModelTest(run).play();
        }
        System.out.println("ModelTest: " + large + " large, " + tooLarge + " too large, " + badLeads + " do not lead, "
            + goodLeads + " lead, " + someTrapped + " with traps, " + longWays + " on long ways");
        EXPECT.isTrue("all sorts of answers were met, that",
            large > 500 && tooLarge > 500 && badLeads > 500 && goodLeads > 500 && someTrapped > 500 && longWays > 500);
        EXPECT.end();
    }

    private static int below(int n) {
        seed = seed * 6364136223846793005L + 1442695040888963407L;
        return (int) ((seed >>> 33) % n);
    }

    private void play() {
        for (int i = 0; i < processes; i++) {
            sizes[i] = 1 + below(below(2) == 0 ? 3 : 8);
            both("addProcess", sizes[i]);
        }
        for (int i = 0; i < variables; i++) {
            int greatest = 1 + below(below(2) == 0 ? 2 : 9);
            both("addVariable", greatest, below(greatest + 1));
        }
        int calls = processes + variables + addRounds();
        int protocolCalls = 10 + below(isWild ? 200 : 80);
        while (calls < protocolCalls) {
            changeProtocol();
            calls++;
        }
        both("explore");
        calls++;
        // The digest is the last one. What only steers the run is asked of the model: that counts no call.
        while (calls < CALLS - 1) {
            int kind = below(100);
            if (kind < 3) {
                changeProtocol();
            } else if (kind < 10 && model.count(4) == 0) {
                both("explore");
            } else if (kind < 20) {
                addFact();
            } else {
                ask();
            }
            calls++;
        }
        both("digest");
    }

    /** Lets some processes go round through all their locations; answers how many calls that took. */
    private int addRounds() {
        int calls = 0;
        for (int p = 0; p < processes; p++) {
            int n = below(2) == 0 ? sizes[p] : 0;
            for (int l = 0; l < n; l++) {
                both("addMove", p, l, (l + 1) % n, below(4) > 0 ? 0 : near(hands + 1));
                calls++;
            }
        }
        return calls;
    }

    /** Mostly a number below n, now and then an odd one. */
    private int near(int n) {
        int kind = below(30);
        if (kind == 0) {
            return ODD[below(ODD.length)];
        }
        return kind == 1 || n <= 0 ? n : below(n);
    }

    private void changeProtocol() {
        int p = near(processes);
        int m = near(p >= 0 && p < 5 ? 6 : 1);
        int kind = below(12);
        if (kind < 5) {
            int n = p >= 0 && p < processes ? sizes[p] : 1;
            int from = near(n);
            int to = below(2) == 0 ? near(n) : (from + 1) % n;
            both("addMove", p, from, to, hands == 0 || below(3) > 0 ? 0 : near(hands + 1));
        } else if (kind < 8) {
            both("guard", p, m, guards == 0 ? 0 : near(5), near(variables), near(guards == 1 ? 3 : 10));
        } else if (kind < 11) {
            both("deed", p, m, deeds == 0 ? 0 : near(3), near(variables), deeds == 1 ? near(4) - 1 : near(20) - 9);
        } else if (below(40) == 0) {
            both("addProcess", near(9));
        } else if (below(40) == 0) {
            both("addVariable", near(10), near(3));
        }
    }

    private void addFact() {
        int sort = near(6);
        int n = sort == 0 ? processes : sort <= 2 ? variables : model.count(3);
        both("addFact", sort, near(n), sort == 0 ? near(4) : sort <= 2 ? near(6) : sort == 3 ? near(20) / 19 : near(n));
    }

    private void ask() {
        int facts = model.count(3);
        int states = model.count(4);
        int s = near(states);
        switch (below(11)) {
            case 0 -> both("count", near(6));
            case 1 -> both("state", s, near(11));
            case 2 -> both("step", s, near(s >= 0 && s < states ? model.state(s, 9) : 1), near(5));
            case 3 -> both("holds", near(facts), s);
            case 4 -> both("where", near(facts), below(2));
            case 5 -> both("stuck");
            case 6 -> both("leads", near(facts), near(facts));
            case 7 -> both("isBad", near(facts), s);
            case 8 -> both("trapped", near(facts));
            case 9 -> both("way", s, near(s >= 0 && s < states ? model.state(s, 10) + 1 : 1), near(2));
            default -> both(below(8) == 0 ? "digest" : "branching");
        }
    }

    private void both(String call, int... a) {
        String got = answer(call, a, true);
        String due = answer(call, a, false);
        EXPECT.isTrue("run " + run + ": " + call + java.util.Arrays.toString(a) + " is " + due + ", it was " + got
            + ", which", got.equals(due));
        met(call, a, due);
    }

    private void met(String call, int[] a, String due) {
        if (due.startsWith("java")) {
            return;
        }
        switch (call) {
            case "explore" -> {
                large += due.length() >= 3 ? 1 : 0;
                tooLarge += due.equals("-1") ? 1 : 0;
            }
            case "leads" -> {
                badLeads += due.equals("-1") ? 0 : 1;
                goodLeads += due.equals("-1") ? 1 : 0;
            }
            case "trapped" -> someTrapped += due.equals("0") ? 0 : 1;
            case "way" -> longWays += a[1] >= 5 && !due.equals("-1") ? 1 : 0;
            default -> { }
        }
    }

    private String answer(String call, int[] a, boolean isChecker) {
        try {
            return isChecker ? ofChecker(checker, call, a) : ofModel(model, call, a);
        } catch (RuntimeException e) {
            return e.getClass().getName();
        }
    }

    private static String ofChecker(FairChecker x, String call, int[] a) {
        return switch (call) {
            case "addProcess" -> "" + x.addProcess(a[0]);
            case "addVariable" -> "" + x.addVariable(a[0], a[1]);
            case "addMove" -> "" + x.addMove(a[0], a[1], a[2], a[3]);
            case "guard" -> "" + x.guard(a[0], a[1], a[2], a[3], a[4]);
            case "deed" -> "" + x.deed(a[0], a[1], a[2], a[3], a[4]);
            case "count" -> "" + x.count(a[0]);
            case "explore" -> "" + x.explore();
            case "state" -> "" + x.state(a[0], a[1]);
            case "step" -> "" + x.step(a[0], a[1], a[2]);
            case "addFact" -> "" + x.addFact(a[0], a[1], a[2]);
            case "holds" -> "" + x.holds(a[0], a[1]);
            case "where" -> "" + x.where(a[0], a[1] == 1);
            case "stuck" -> "" + x.stuck();
            case "leads" -> "" + x.leads(a[0], a[1]);
            case "isBad" -> "" + x.isBad(a[0], a[1]);
            case "trapped" -> "" + x.trapped(a[0]);
            case "way" -> "" + x.way(a[0], a[1], a[2]);
            case "branching" -> "" + x.branching();
            default -> "" + x.digest();
        };
    }

    private static String ofModel(Model x, String call, int[] a) {
        return switch (call) {
            case "addProcess" -> "" + x.addProcess(a[0]);
            case "addVariable" -> "" + x.addVariable(a[0], a[1]);
            case "addMove" -> "" + x.addMove(a[0], a[1], a[2], a[3]);
            case "guard" -> "" + x.guard(a[0], a[1], a[2], a[3], a[4]);
            case "deed" -> "" + x.deed(a[0], a[1], a[2], a[3], a[4]);
            case "count" -> "" + x.count(a[0]);
            case "explore" -> "" + x.explore();
            case "state" -> "" + x.state(a[0], a[1]);
            case "step" -> "" + x.step(a[0], a[1], a[2]);
            case "addFact" -> "" + x.addFact(a[0], a[1], a[2]);
            case "holds" -> "" + x.holds(a[0], a[1]);
            case "where" -> "" + x.where(a[0], a[1] == 1);
            case "stuck" -> "" + x.stuck();
            case "leads" -> "" + x.leads(a[0], a[1]);
            case "isBad" -> "" + x.isBad(a[0], a[1]);
            case "trapped" -> "" + x.trapped(a[0]);
            case "way" -> "" + x.way(a[0], a[1], a[2]);
            case "branching" -> "" + x.branching();
            default -> "" + x.digest();
        };
    }
}
