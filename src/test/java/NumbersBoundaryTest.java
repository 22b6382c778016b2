import java.math.BigInteger;
import java.util.ArrayList;
import java.util.List;

/** Promises 19 and 20, and how long an object is used: each sentence that names a boundary. */
public final class NumbersBoundaryTest {
    private static final Expect EXPECT = new Expect("NumbersBoundaryTest");
    private static final int MOST = 400;
    private static final int MOST_CALLS = 512;

    public static void main(String[] args) {
        branchingUnexplored();
        branchingOfFewAndMany();

        digestOfNothing();
        digestWithoutStatesAndFacts();
        digestUpToTheWrapAround();
        digestTurnsNegative();
        digestOfNoneOther();
        digestOfFourHundred();
        digestOfMostSteps();

        lastOfAllCalls();
        EXPECT.end();
    }

    // ---- promise 19

    /** "0 if it is unexplored": new, changed, and too large. */
    private static void branchingUnexplored() {
        EXPECT.same("19: a new object", new FairChecker().branching(), 0.0);
        EXPECT.same("19: explored", Protocols.small().branching(), 2.0 / 3.0);
        EXPECT.same("19: unexplored", Protocols.smallUnexplored().branching(), 0.0);
        FairChecker x = Protocols.tooLongChain();
        x.explore();
        EXPECT.same("19: too many states", x.branching(), 0.0);
    }

    /** "the number of steps divided by the number of states": from no steps to the most. */
    private static void branchingOfFewAndMany() {
        FairChecker none = Protocols.idle(1);
        none.explore();
        EXPECT.same("19: no steps of one state", none.branching(), 0.0);
        EXPECT.same("19: 80 steps of one state", Protocols.full().branching(), 80.0);
        FairChecker chain = Protocols.chain();
        chain.explore();
        EXPECT.same("19: 399 steps of 400 states", chain.branching(), 0.9975);
        FairChecker round = Protocols.round();
        round.explore();
        EXPECT.same("19: 400 steps of 400 states", round.branching(), 1.0);
        FairChecker dearest = Protocols.dearest(3);
        dearest.explore();
        EXPECT.same("19: the most steps of 400 states", dearest.branching(), 2560.0);
    }

    // ---- promise 20

    /** The sum as a whole number that knows no end. */
    private static BigInteger unwrapped(List<Integer> numbers) {
        BigInteger d = BigInteger.valueOf(397);
        for (int x : numbers) {
            d = d.multiply(BigInteger.valueOf(31)).add(BigInteger.valueOf(x));
        }
        return d;
    }

    private static List<Integer> listOf(int... numbers) {
        List<Integer> list = new ArrayList<>();
        add(list, numbers);
        return list;
    }

    private static void add(List<Integer> list, int... numbers) {
        for (int x : numbers) {
            list.add(x);
        }
    }

    private static void sameDigest(String what, FairChecker x, List<Integer> numbers) {
        EXPECT.same(what, x.digest(), unwrapped(numbers).longValue());
    }

    /** "A number d starts with 397". */
    private static void digestOfNothing() {
        sameDigest("20: a new object", new FairChecker(), listOf(0, 0, 0, 0, 0, 0));
    }

    /** "for each fact (if it is explored) in how many states it holds". */
    private static void digestWithoutStatesAndFacts() {
        sameDigest("20: unexplored", Protocols.smallUnexplored(), listOf(2, 2, 3, 3, 0, 0));
        FairChecker x = Protocols.tooLongChain();
        x.explore();
        sameDigest("20: too many states", x, listOf(2, 2, 12, 7, 0, 0));
        sameDigest("20: explored", Protocols.small(), listOf(2, 2, 3, 3, 3, 2,
            0, 0, 2, 0, 1, 1, 0, 0, -1, -1,
            1, 0, 3, 0, 1, 2, 0, 1, 1, 0,
            2, 1, 3, 9, 0,
            1, 1, 2));
    }

    /** "which wraps around as a 64-bit integer": ten numbers are the last that do not, eleven the first that do. */
    private static void digestUpToTheWrapAround() {
        List<Integer> numbers = listOf(1, 0, 0, 0, 1, 0, 0, 0);
        FairChecker x = Protocols.idle(1);
        x.explore();
        sameDigest("20: eight numbers", x, numbers);
        for (int f = 0; f < 12; f++) {
            x.addFact(0, 0, 0);
            numbers.set(3, f + 1);
            add(numbers, 1);
            BigInteger due = unwrapped(numbers);
            int size = numbers.size();
            EXPECT.isTrue(size + " numbers go beyond 64 bits from the eleventh on, that",
                due.bitLength() > 63 == size > 10);
            EXPECT.same("20: " + size + " numbers", x.digest(), due.longValue());
        }
    }

    /** A sum may wrap around to less than 0, and back. */
    private static void digestTurnsNegative() {
        int negative = 0;
        for (int f = 0; f <= 12; f++) {
            FairChecker x = Protocols.idle(1);
            List<Integer> numbers = listOf(1, 0, 0, f, 1, 0, 0, 0);
            x.explore();
            for (int i = 0; i < f; i++) {
                x.addFact(0, 0, 0);
                add(numbers, 1);
            }
            sameDigest("20: with " + f + " facts", x, numbers);
            negative += x.digest() < 0 ? 1 : 0;
        }
        EXPECT.isTrue(negative + " of 13 are less than 0: some, not all, that", negative > 0 && negative < 13);
    }

    /** "what step() tells": -1 for none is added as it is. */
    private static void digestOfNoneOther() {
        FairChecker alone = Protocols.idle(2);
        alone.addMove(0, 0, 0, 0);
        alone.explore();
        sameDigest("20: a step alone", alone, listOf(2, 0, 1, 0, 1, 1, 0, 0, 1, 0, 0, 0, -1, -1));
        FairChecker pair = Protocols.idle(2);
        pair.addMove(0, 0, 0, 1);
        pair.addMove(1, 0, 0, 1);
        pair.explore();
        sameDigest("20: a step of a pair", pair, listOf(2, 0, 2, 0, 1, 1, 0, 0, 1, 0, 0, 0, 1, 0));
    }

    private static void digestOfFourHundred() {
        FairChecker x = Protocols.chain();
        x.explore();
        List<Integer> numbers = listOf(2, 2, 11, 7, MOST, MOST - 1);
        for (int s = 0; s < MOST; s++) {
            int highest = s / 100;
            add(numbers, 0, highest, s % 10, s / 10 % 10, s < MOST - 1 ? 1 : 0);
            if (s % 10 < 9) {
                add(numbers, s + 1, 0, 0, -1, -1);
            } else if (s % 100 < 99) {
                add(numbers, s + 1, 0, 1, 1, highest);
            } else if (s < MOST - 1) {
                add(numbers, s + 1, 0, 2, 1, 4 + highest);
            }
        }
        add(numbers, MOST, 0, 40, 40, 4, 100, 1);
        sameDigest("20: 400 states", x, numbers);
    }

    /** All steps that one state may have. */
    private static void digestOfMostSteps() {
        FairChecker x = new FairChecker();
        List<Integer> numbers = listOf(5, 0, 80, 0, 1, 2560, 0, 0, 0, 0, 0, 2560);
        for (int a = 0; a < 5; a++) {
            x.addProcess(1);
            for (int move = 0; move < 16; move++) {
                x.addMove(a, 0, 0, 9);
                for (int b = a + 1; b < 5; b++) {
                    for (int other = 0; other < 16; other++) {
                        add(numbers, 0, a, move, b, other);
                    }
                }
            }
        }
        EXPECT.same("8: one state", x.explore(), 1);
        sameDigest("20: 2560 steps", x, numbers);
    }

    // ---- what it is

    /** "An object is used for at most 512 calls after it has been made": the last of them answers as the first one. */
    private static void lastOfAllCalls() {
        FairChecker x = Protocols.idle(1);
        x.addMove(0, 0, 0, 0);
        // Two calls have been made: each turn makes five more, and four are made behind them.
        int calls = 2;
        for (; calls + 5 <= MOST_CALLS - 4; calls += 5) {
            EXPECT.same("what it is: guard", x.guard(0, 0, 0, 0, 0), 0);
            EXPECT.same("what it is: unexplored", x.count(5), 0);
            EXPECT.same("what it is: explore", x.explore(), 1);
            EXPECT.same("what it is: count", x.count(5), 1);
            EXPECT.fails("what it is: refused", Expect.INDEX, () -> x.state(1, 0));
        }
        for (; calls < MOST_CALLS - 4; calls++) {
            EXPECT.same("what it is: count", x.count(0), 1);
        }
        EXPECT.same("what it is: call 509", x.addFact(0, 0, 0), 0);
        EXPECT.same("what it is: call 510", x.explore(), 1);
        EXPECT.fails("what it is: call 511", Expect.INDEX, () -> x.leads(0, 1));
        EXPECT.same("what it is: call 512", x.leads(0, 0), -1);
    }
}
