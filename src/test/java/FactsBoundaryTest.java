import java.util.function.Supplier;

/** Promises 11 to 14: each sentence that names a boundary, at the last value in and at the first out. */
public final class FactsBoundaryTest {
    private static final Expect EXPECT = new Expect("FactsBoundaryTest");
    private static final Refusal REFUSAL = new Refusal(EXPECT);
    private static final int MOST = 400;

    public static void main(String[] args) {
        sortOfFact();
        processOfFact();
        locationOfFact();
        variableOfFact();
        valueOfFact();
        factOfNot();
        zeroOfNot();
        factsOfTwo();
        oneFactTwice();
        twelveFacts();
        factErrorsInOrder();
        factsAtAnyTime();

        locationThatHolds();
        valueThatHolds();
        factsMadeOfFacts();
        deepestFact();

        factOfHolds();
        stateOfHolds();

        factOfWhere();
        whereUnexplored();
        firstOfWhere();
        numberOfWhere();

        stuckUnexplored();
        firstStuck();
        noneStuck();
        EXPECT.end();
    }

    // ---- promise 11

    /** "if sort is not 0 to 5". */
    private static void sortOfFact() {
        REFUSAL.outside("11: sort", Expect.ARGUMENT, Protocols::small, 0, 5, (x, s) -> x.addFact(s, 0, 0));
        for (int sort = 0; sort <= 5; sort++) {
            EXPECT.same("11: sort " + sort, Protocols.small().addFact(sort, 0, 0), 3);
        }
    }

    /** "there is no such process .. a". */
    private static void processOfFact() {
        for (int processes = 1; processes <= 5; processes++) {
            int n = processes;
            REFUSAL.outside("11: process", Expect.ARGUMENT, () -> Protocols.idle(n), 0, n - 1,
                (x, p) -> x.addFact(0, p, 0));
            FairChecker x = Protocols.idle(n);
            EXPECT.same("11: the first process", x.addFact(0, 0, 0), 0);
            EXPECT.same("11: the last process", x.addFact(0, n - 1, 0), 1);
        }
        REFUSAL.outside("11: no process", Expect.ARGUMENT, () -> variables(4), 0, -1, (x, p) -> x.addFact(0, p, 0));
    }

    private static FairChecker variables(int variables) {
        FairChecker x = new FairChecker();
        for (int v = 0; v < variables; v++) {
            x.addVariable(1 + v, 0);
        }
        return x;
    }

    /** "b is no location of the process": of the process, though another one may have more. */
    private static void locationOfFact() {
        for (int locations = 1; locations <= 8; locations++) {
            int n = locations;
            Supplier<FairChecker> maker = () -> {
                FairChecker x = new FairChecker();
                x.addProcess(8);
                x.addProcess(n);
                x.explore();
                return x;
            };
            REFUSAL.outside("11: location", Expect.ARGUMENT, maker, 0, n - 1, (x, l) -> x.addFact(0, 1, l));
            FairChecker x = maker.get();
            EXPECT.same("11: the first location", x.addFact(0, 1, 0), 0);
            EXPECT.same("11: the last location", x.addFact(0, 1, n - 1), 1);
        }
    }

    /** "there is no such .. variable .. a". */
    private static void variableOfFact() {
        for (int variables = 0; variables <= 4; variables++) {
            int n = variables;
            for (int sort = 1; sort <= 2; sort++) {
                int s = sort;
                REFUSAL.outside("11: variable", Expect.ARGUMENT, () -> variables(n), 0, n - 1,
                    (x, v) -> x.addFact(s, v, 0));
                FairChecker x = variables(n);
                for (int v = 0; v < n; v++) {
                    EXPECT.same("11: the variable " + v, x.addFact(s, v, 0), v);
                }
            }
        }
    }

    /** "or b is .. not 0 to 9 (sorts 1 and 2)": 9 is in, though the greatest value may be less. */
    private static void valueOfFact() {
        for (int sort = 1; sort <= 2; sort++) {
            int s = sort;
            for (int greatest = 1; greatest <= 9; greatest++) {
                int g = greatest;
                Supplier<FairChecker> maker = () -> {
                    FairChecker x = Protocols.idle(1);
                    x.addVariable(g, g);
                    x.explore();
                    return x;
                };
                REFUSAL.outside("11: value", Expect.ARGUMENT, maker, 0, 9, (x, b) -> x.addFact(s, 0, b));
                FairChecker x = maker.get();
                for (int b = 0; b <= 9; b++) {
                    EXPECT.same("11: the value " + b, x.addFact(s, 0, b), b);
                    EXPECT.isTrue("12: " + g + " by the sort " + s + " of " + b + ", that",
                        x.holds(b, 0) == (s == 1 ? g == b : g <= b));
                }
            }
        }
    }

    /** "there is no such .. fact a": facts are made of those with smaller numbers, not of themselves. */
    private static void factOfNot() {
        for (int facts = 0; facts <= 11; facts++) {
            int n = facts;
            REFUSAL.outside("11: not of one of " + n, Expect.ARGUMENT, () -> withFacts(n), 0, n - 1,
                (x, a) -> x.addFact(3, a, 0));
            for (int a = 0; a < n; a += n > 1 ? n - 1 : 1) {
                EXPECT.same("11: not " + a + " of " + n, withFacts(n).addFact(3, a, 0), n);
            }
        }
    }

    private static FairChecker withFacts(int facts) {
        FairChecker x = Protocols.idle(1);
        x.addVariable(9, 4);
        for (int f = 0; f < facts; f++) {
            x.addFact(1 + f % 2, 0, f % 10);
        }
        x.explore();
        return x;
    }

    /** "not 0 (sort 3)". */
    private static void zeroOfNot() {
        REFUSAL.outside("11: b of not", Expect.ARGUMENT, () -> withFacts(3), 0, 0, (x, b) -> x.addFact(3, 1, b));
        EXPECT.same("11: 0 for not", withFacts(3).addFact(3, 1, 0), 3);
    }

    /** "there is no such .. fact a, or b is .. no fact (sorts 4 and 5)". */
    private static void factsOfTwo() {
        for (int sort = 4; sort <= 5; sort++) {
            int s = sort;
            for (int facts = 0; facts <= 11; facts++) {
                int n = facts;
                Supplier<FairChecker> maker = () -> withFacts(n);
                REFUSAL.outside("11: a of " + n, Expect.ARGUMENT, maker, 0, n - 1, (x, a) -> x.addFact(s, a, 0));
                REFUSAL.outside("11: b of " + n, Expect.ARGUMENT, maker, 0, n - 1, (x, b) -> x.addFact(s, 0, b));
                if (n > 0) {
                    EXPECT.same("11: the first and the last of " + n, maker.get().addFact(s, 0, n - 1), n);
                    EXPECT.same("11: the last and the first of " + n, maker.get().addFact(s, n - 1, 0), n);
                }
            }
        }
    }

    /** "no fact": of a fact that is there, both places may be taken by the very one. */
    private static void oneFactTwice() {
        FairChecker x = withFacts(6);
        EXPECT.same("11: both", x.addFact(4, 5, 5), 6);
        EXPECT.same("11: one at least", x.addFact(5, 4, 4), 7);
        EXPECT.isTrue("12: both of one hold as it does, that", x.holds(6, 0) == x.holds(5, 0));
        EXPECT.isTrue("12: one of one holds as it does, that", x.holds(7, 0) == x.holds(4, 0));
    }

    /** "if there are 12"; "at most 12, numbered from 0". */
    private static void twelveFacts() {
        FairChecker x = Protocols.idle(1);
        for (int f = 0; f < 12; f++) {
            EXPECT.same("11: its number", f == 0 ? x.addFact(0, 0, 0) : x.addFact(3, f - 1, 0), f);
            EXPECT.same("11: so many now", x.count(3), f + 1);
        }
        for (int sort = 0; sort <= 5; sort++) {
            int s = sort;
            REFUSAL.refused("11: a thirteenth", Expect.STATE, Protocols::full, y -> y.addFact(s, 0, 0));
        }
        REFUSAL.refused("11: a thirteenth of the twelfth", Expect.STATE, Protocols::full, y -> y.addFact(4, 11, 11));
    }

    /** "If several exceptions apply, the one that is named first is thrown." */
    private static void factErrorsInOrder() {
        Supplier<FairChecker> maker = Protocols::full;
        REFUSAL.outside("11: a thirteenth, sort", Expect.ARGUMENT, maker, 0, 5, (x, s) -> x.addFact(s, 0, 0));
        REFUSAL.outside("11: a thirteenth, process", Expect.ARGUMENT, maker, 0, 4, (x, a) -> x.addFact(0, a, 0));
        REFUSAL.outside("11: a thirteenth, location", Expect.ARGUMENT, maker, 0, 0, (x, b) -> x.addFact(0, 0, b));
        REFUSAL.outside("11: a thirteenth, variable", Expect.ARGUMENT, maker, 0, 3, (x, a) -> x.addFact(1, a, 0));
        REFUSAL.outside("11: a thirteenth, value", Expect.ARGUMENT, maker, 0, 9, (x, b) -> x.addFact(2, 0, b));
        REFUSAL.outside("11: a thirteenth, b of not", Expect.ARGUMENT, maker, 0, 0, (x, b) -> x.addFact(3, 0, b));
        REFUSAL.outside("11: a thirteenth, fact a", Expect.ARGUMENT, maker, 0, 11, (x, a) -> x.addFact(4, a, 0));
        REFUSAL.outside("11: a thirteenth, fact b", Expect.ARGUMENT, maker, 0, 11, (x, b) -> x.addFact(5, 0, b));
    }

    /** "facts can be added at any time": it stays explored, or unexplored. */
    private static void factsAtAnyTime() {
        FairChecker x = Protocols.small();
        for (int f = 3; f < 12; f++) {
            EXPECT.same("11: explored", x.addFact(3, f - 1, 0), f);
            EXPECT.same("11: still explored", x.count(4), 3);
            EXPECT.same("13: the new one is told at once", x.where(f, false), f % 2 == 0 ? 2 : 1);
        }
        FairChecker y = Protocols.smallUnexplored();
        EXPECT.same("11: unexplored", y.addFact(3, 2, 0), 3);
        EXPECT.same("11: still unexplored", y.count(4), 0);
        EXPECT.fails("13: still unexplored", Expect.STATE, () -> y.where(3, false));
    }

    // ---- what holds

    /** "sort 0, a process is at a location": the first and the last process, at the first and the last location. */
    private static void locationThatHolds() {
        for (int process = 0; process < 5; process++) {
            FairChecker x = new FairChecker();
            for (int p = 0; p < 5; p++) {
                x.addProcess(8);
            }
            for (int l = 0; l < 7; l++) {
                x.addMove(process, l, l + 1, 0);
            }
            x.explore();
            for (int l = 0; l < 8; l++) {
                x.addFact(0, process, l);
                EXPECT.same("13: process " + process + " at " + l, x.where(l, true), l);
                EXPECT.same("13: process " + process + " at " + l, x.where(l, false), 1);
            }
            x.addFact(0, (process + 1) % 5, 0);
            EXPECT.same("13: another one stays", x.where(8, false), 8);
        }
    }

    /** "1, a variable has a value; 2, a variable is at most a value": each variable, at each value. */
    private static void valueThatHolds() {
        for (int variable = 0; variable < 4; variable++) {
            for (int sort = 1; sort <= 2; sort++) {
                FairChecker x = Protocols.idle(1);
                for (int v = 0; v < 4; v++) {
                    x.addVariable(9, 0);
                }
                x.addMove(0, 0, 0, 0);
                x.deed(0, 0, 2, variable, 1);
                x.explore();
                for (int b = 0; b <= 9; b++) {
                    x.addFact(sort, variable, b);
                    for (int s = 0; s <= 9; s++) {
                        EXPECT.isTrue("12: " + s + " by the sort " + sort + " of " + b + ", that",
                            x.holds(b, s) == (sort == 1 ? s == b : s <= b));
                    }
                }
            }
        }
    }

    /** "3, not another fact; 4, both of two other facts; 5, one of two other facts at least": all four cases. */
    private static void factsMadeOfFacts() {
        FairChecker x = Protocols.idle(1);
        x.addVariable(1, 0);
        x.addFact(1, 0, 0);
        x.addFact(1, 0, 1);
        x.explore();
        int fact = 2;
        for (int a = 0; a <= 1; a++) {
            EXPECT.same("11: addFact", x.addFact(3, a, 0), fact);
            EXPECT.isTrue("12: not " + a + ", that", x.holds(fact, 0) == (a == 1));
            fact++;
            for (int b = 0; b <= 1; b++) {
                EXPECT.same("11: addFact", x.addFact(4, a, b), fact);
                EXPECT.isTrue("12: both " + a + " and " + b + ", that", x.holds(fact, 0) == (a == 0 && b == 0));
                EXPECT.same("11: addFact", x.addFact(5, a, b), fact + 1);
                EXPECT.isTrue("12: " + a + " or " + b + ", that", x.holds(fact + 1, 0) == (a == 0 || b == 0));
                fact += 2;
            }
        }
        EXPECT.same("11: all facts that there may be", x.count(3), 12);
    }

    /** The twelfth fact is made of the eleventh one, and so down to the first one. */
    private static void deepestFact() {
        for (int sort = 3; sort <= 5; sort++) {
            FairChecker x = Protocols.small();
            for (int f = 3; f < 12; f++) {
                EXPECT.same("11: addFact", x.addFact(sort, f - 1, sort == 3 ? 0 : f - 1), f);
            }
            // The fact 2 holds in two of three states; it is turned about nine times by the sort 3.
            EXPECT.same("13: the twelfth fact", x.where(11, false), sort == 3 ? 1 : 2);
            EXPECT.same("13: the twelfth fact", x.where(11, true), sort == 3 ? 1 : 0);
        }
    }

    // ---- promise 12

    /** "if there is no such fact". */
    private static void factOfHolds() {
        REFUSAL.outside("12: fact", Expect.INDEX, Protocols::small, 0, 2, (x, f) -> x.holds(f, 0) ? 1 : 0);
        REFUSAL.outside("12: of 12", Expect.INDEX, Protocols::full, 0, 11, (x, f) -> x.holds(f, 0) ? 1 : 0);
        REFUSAL.outside("12: of none", Expect.INDEX, () -> withFacts(0), 0, -1, (x, f) -> x.holds(f, 0) ? 1 : 0);
        FairChecker x = withFacts(12);
        EXPECT.isTrue("12: the first fact does not hold, that", !x.holds(0, 0));
        EXPECT.isTrue("12: 4 is at most 9, that", x.holds(9, 0));
        EXPECT.isTrue("12: the last fact does not hold, that", !x.holds(11, 0));
    }

    /** "if there is no such .. state". */
    private static void stateOfHolds() {
        REFUSAL.outside("12: state", Expect.INDEX, Protocols::small, 0, 2, (x, s) -> x.holds(0, s) ? 1 : 0);
        REFUSAL.outside("12: of 400", Expect.INDEX, Protocols.explored(Protocols::chain), 0, MOST - 1,
            (x, s) -> x.holds(Protocols.EVERYWHERE, s) ? 1 : 0);
        REFUSAL.outside("12: unexplored", Expect.INDEX, Protocols::smallUnexplored, 0, -1,
            (x, s) -> x.holds(0, s) ? 1 : 0);
        FairChecker x = Protocols.explored(Protocols::chain).get();
        EXPECT.isTrue("12: not in the one ahead of the last, that", !x.holds(Protocols.LAST_ALONE, MOST - 2));
        EXPECT.isTrue("12: in the last state, that", x.holds(Protocols.LAST_ALONE, MOST - 1));
        EXPECT.isTrue("12: in the first state, that", x.holds(Protocols.EVERYWHERE, 0));
    }

    // ---- promise 13

    /** "if there is no such fact"; ahead of "if it is unexplored". */
    private static void factOfWhere() {
        for (int first = 0; first <= 1; first++) {
            boolean isFirst = first == 1;
            REFUSAL.outside("13: fact", Expect.INDEX, Protocols::small, 0, 2, (x, f) -> x.where(f, isFirst));
            REFUSAL.outside("13: of 12", Expect.INDEX, Protocols::full, 0, 11, (x, f) -> x.where(f, isFirst));
            REFUSAL.outside("13: unexplored", Expect.INDEX, Protocols::smallUnexplored, 0, 2,
                (x, f) -> x.where(f, isFirst));
        }
        EXPECT.same("13: the last fact of all", Protocols.full().where(11, false), 0);
        EXPECT.same("13: the one ahead of it", Protocols.full().where(10, true), -1);
        EXPECT.same("13: the first one", Protocols.full().where(0, true), 0);
    }

    /** "if it is unexplored". */
    private static void whereUnexplored() {
        for (int fact = 0; fact <= 2; fact++) {
            int f = fact;
            REFUSAL.refused("13: unexplored", Expect.STATE, Protocols::smallUnexplored, x -> x.where(f, true));
            REFUSAL.refused("13: unexplored", Expect.STATE, Protocols::smallUnexplored, x -> x.where(f, false));
        }
        REFUSAL.refused("13: too many", Expect.STATE, Protocols.explored(Protocols::tooLongChain),
            x -> x.where(0, false));
    }

    /** "-1 if there is no such state, and isFirst": otherwise 0 to 399. */
    private static void firstOfWhere() {
        FairChecker x = Protocols.explored(Protocols::chain).get();
        EXPECT.same("13: in no state", x.where(Protocols.NOWHERE, true), -1);
        EXPECT.same("13: in the first state", x.where(Protocols.EVERYWHERE, true), 0);
        EXPECT.same("13: in the last state alone", x.where(Protocols.LAST_ALONE, true), MOST - 1);
    }

    /** "otherwise the number of all these states": 0 to 400. */
    private static void numberOfWhere() {
        FairChecker x = Protocols.explored(Protocols::chain).get();
        EXPECT.same("13: no states", x.where(Protocols.NOWHERE, false), 0);
        EXPECT.same("13: all states", x.where(Protocols.EVERYWHERE, false), MOST);
        EXPECT.same("13: one state", x.where(Protocols.LAST_ALONE, false), 1);
    }

    // ---- promise 14

    /** "if it is unexplored". */
    private static void stuckUnexplored() {
        REFUSAL.refused("14: unexplored", Expect.STATE, Protocols::smallUnexplored, FairChecker::stuck);
        REFUSAL.refused("14: too many", Expect.STATE, Protocols.explored(Protocols::tooLongChain), FairChecker::stuck);
        REFUSAL.refused("14: a new object", Expect.STATE, FairChecker::new, FairChecker::stuck);
    }

    /** "the first state that has no steps": the very first one, the last one, and of many the first one. */
    private static void firstStuck() {
        EXPECT.same("14: the first one of 400", Protocols.explored(Protocols::chain).get().stuck(), MOST - 1);
        FairChecker one = Protocols.idle(1);
        one.explore();
        EXPECT.same("14: the beginning", one.stuck(), 0);
        FairChecker wide = Protocols.wide(13, 11);
        wide.explore();
        EXPECT.same("14: of 399 the first one", wide.stuck(), 1);
    }

    /** "-1 if there is none": of one state, and of 400. */
    private static void noneStuck() {
        EXPECT.same("14: none of one", Protocols.full().stuck(), -1);
        FairChecker x = Protocols.round();
        x.explore();
        EXPECT.same("14: none of 400", x.stuck(), -1);
    }
}
