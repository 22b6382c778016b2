import java.util.function.Supplier;

/** Protocols that lie on the boundaries of the document. */
final class Protocols {
    private Protocols() {
    }

    /**
     * Two processes of 3 and 2 locations, two variables, three moves, three facts; explored, 3 states.
     * The guard and the deed of the first move are such that another number would make other states.
     */
    static FairChecker small() {
        FairChecker x = new FairChecker();
        x.addProcess(3);
        x.addProcess(2);
        x.addVariable(5, 2);
        x.addVariable(9, 0);
        x.addMove(0, 0, 1, 0);
        x.guard(0, 0, 1, 0, 2);
        x.deed(0, 0, 2, 0, 1);
        x.addMove(0, 1, 2, 3);
        x.addMove(1, 0, 1, 3);
        x.deed(1, 0, 1, 1, 9);
        x.addFact(0, 0, 1);
        x.addFact(2, 0, 2);
        x.addFact(3, 0, 0);
        x.explore();
        return x;
    }

    /** The same without what was explored: its last change is one that sets all as it was before. */
    static FairChecker smallUnexplored() {
        FairChecker x = small();
        x.guard(0, 0, 1, 0, 2);
        return x;
    }

    /** As many processes, variables, moves and facts as there may be; explored, one state. */
    static FairChecker full() {
        FairChecker x = new FairChecker();
        for (int p = 0; p < 5; p++) {
            x.addProcess(1);
            for (int m = 0; m < 16; m++) {
                x.addMove(p, 0, 0, 0);
            }
        }
        for (int v = 0; v < 4; v++) {
            x.addVariable(9, v);
        }
        for (int f = 0; f < 12; f++) {
            x.addFact(1, f % 4, f % 3);
        }
        x.explore();
        return x;
    }

    /** The same protocol, explored (or tried, if it has too many states). */
    static Supplier<FairChecker> explored(Supplier<FairChecker> maker) {
        return () -> {
            FairChecker x = maker.get();
            x.explore();
            return x;
        };
    }

    /** So many processes of one location, without moves; unexplored. */
    static FairChecker idle(int processes) {
        FairChecker x = new FairChecker();
        for (int p = 0; p < processes; p++) {
            x.addProcess(1);
        }
        return x;
    }

    /**
     * 400 states, each of which leads to the next one alone: two variables are the lower digits, the
     * location of process 1 the highest one. Process 0 counts by its move 0; to carry to the second
     * digit it shakes hands by 1, to the highest one by 2. Unexplored. Of the facts 0 holds
     * everywhere, 1 nowhere, and 4 in the last state alone.
     */
    static FairChecker chain() {
        FairChecker x = new FairChecker();
        x.addProcess(1);
        x.addProcess(5);
        x.addVariable(9, 0);
        x.addVariable(9, 0);
        x.addMove(0, 0, 0, 0);
        x.deed(0, 0, 2, 0, 1);
        for (int hand = 1; hand <= 3; hand++) {
            x.addMove(0, 0, 0, hand);
            x.guard(0, hand, 1, 0, 9);
            x.deed(0, hand, 1, 0, 0);
        }
        for (int l = 0; l < 4; l++) {
            x.addMove(1, l, l, 1);
            x.deed(1, l, 2, 1, 1);
        }
        for (int l = 0; l < 3; l++) {
            carry(x, l, l + 1, 2);
        }
        x.addFact(0, 0, 0);
        x.addFact(3, 0, 0);
        x.addFact(1, 0, 9);
        x.addFact(1, 1, 9);
        x.addFact(4, 2, 3);
        x.addFact(0, 1, 3);
        x.addFact(4, 4, 5);
        return x;
    }

    /** In chain(): the fact that holds everywhere, nowhere, and in the last state alone. */
    static final int EVERYWHERE = 0;
    static final int NOWHERE = 1;
    static final int LAST_ALONE = 6;

    /** A chain of which the last state leads to the first one. */
    static FairChecker round() {
        FairChecker x = chain();
        carry(x, 3, 0, 3);
        return x;
    }

    /** A chain of 401 states. */
    static FairChecker tooLongChain() {
        FairChecker x = chain();
        int move = carry(x, 3, 4, 3);
        x.deed(0, 3, 0, 0, 0);
        x.deed(1, move, 0, 0, 0);
        return x;
    }

    private static int carry(FairChecker x, int from, int to, int hand) {
        int move = x.addMove(1, from, to, hand);
        x.guard(1, move, 1, 1, 9);
        x.deed(1, move, 1, 1, 0);
        return move;
    }

    /** 1 + 256 + a * b states: all behind the first one, by two pairs of processes, one of which goes. */
    static FairChecker wide(int a, int b) {
        FairChecker x = new FairChecker();
        int[] moves = {16, 16, a, b};
        for (int p = 0; p < 4; p++) {
            x.addProcess(8);
            x.addVariable(9, 0);
        }
        for (int p = 0; p < 4; p++) {
            for (int m = 0; m < moves[p]; m++) {
                x.addMove(p, 0, 1 + m % 7, 1 + p / 2);
                x.deed(p, m, 1, p, 1 + m / 7);
                if (p % 2 == 0) {
                    x.guard(p, m, 1, 2 - p, 0);
                }
            }
        }
        return x;
    }

    /** All moves are always open and shake hands: 10 * 256 steps of each of 100 * (1 + greatestOfThird) states. */
    static FairChecker dearest(int greatestOfThird) {
        FairChecker x = new FairChecker();
        int[] greatest = {9, 9, greatestOfThird};
        for (int p = 0; p < 5; p++) {
            x.addProcess(1);
            for (int m = 0; m < 16; m++) {
                x.addMove(p, 0, 0, 1);
            }
            if (p < 3) {
                x.addVariable(greatest[p], 0);
                for (int value = 0; value <= greatest[p]; value++) {
                    x.deed(p, value, 1, p, value);
                }
            }
        }
        return x;
    }
}
