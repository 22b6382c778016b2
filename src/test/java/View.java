import java.util.function.Supplier;

/** What a checker answers about itself, in one text, so that two checkers can be compared. */
final class View {
    private final FairChecker x;
    private final StringBuilder text = new StringBuilder();

    private View(FairChecker x) {
        this.x = x;
    }

    /** By calls that change nothing: at most 100 of them, since a checker is used for 512 calls alone. */
    static String of(FairChecker x) {
        View view = new View(x);
        for (int what = 0; what <= 5; what++) {
            int w = what;
            view.add("count " + what, () -> x.count(w));
        }
        view.add("digest", x::digest);
        view.add("branching", x::branching);
        view.add("stuck", x::stuck);
        view.addLastState();
        view.addFacts();
        return view.text.toString();
    }

    /** The sorts of all guards and deeds, which are told by setting them alone. */
    static String ofSorts(FairChecker x) {
        View view = new View(x);
        int processes = x.count(0);
        for (int p = 0; p < processes; p++) {
            boolean isThere = true;
            for (int m = 0; m < 16 && isThere; m++) {
                isThere = view.addSorts(p, m);
            }
        }
        return view.text.toString();
    }

    private void addLastState() {
        int last = x.count(4) - 1;
        add("depth", () -> x.state(last, 10));
        add("way from", () -> x.way(last, 0, 0));
        add("way by", () -> x.way(last, 0, 1));
    }

    private void addFacts() {
        int facts = x.count(3);
        int last = x.count(4) - 1;
        for (int fact = 0; fact < facts; fact++) {
            int f = fact;
            add("first of " + f, () -> x.where(f, true));
            add("number of " + f, () -> x.where(f, false));
            add("leads from " + f, () -> x.leads(f, 0));
            add("leads to " + f, () -> x.leads(0, f));
            add("trapped " + f, () -> x.trapped(f));
            add("bad " + f, () -> x.isBad(f, last));
            add("holds " + f, () -> x.holds(f, last));
        }
    }

    /** False if there is no such move. */
    private boolean addSorts(int p, int m) {
        try {
            text.append(x.guard(p, m, 0, 0, 0)).append(' ').append(x.deed(p, m, 0, 0, 0)).append("; ");
            return true;
        } catch (IndexOutOfBoundsException e) {
            return false;
        }
    }

    private void add(String what, Supplier<Object> call) {
        text.append(what).append(' ').append(answer(call)).append("; ");
    }

    private static String answer(Supplier<Object> call) {
        try {
            return String.valueOf(call.get());
        } catch (RuntimeException e) {
            return e.getClass().getName();
        }
    }
}
