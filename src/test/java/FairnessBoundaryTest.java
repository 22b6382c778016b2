import java.util.function.Supplier;

/** Promises 15 to 17, and the terms on runs: each boundary, at the last that is in and at the first that is out. */
public final class FairnessBoundaryTest {
    private static final Expect EXPECT = new Expect("FairnessBoundaryTest");
    private static final Refusal REFUSAL = new Refusal(EXPECT);
    private static final int MOST = 400;

    public static void main(String[] args) {
        factsOfLeads();
        leadsUnexplored();
        leadsEverywhereAndNowhere();
        firstOfLeads();
        leadsToItself();

        factOfIsBad();
        stateOfIsBad();
        badOfFourHundred();

        factOfTrapped();
        trappedUnexplored();
        noneAndAllTrapped();

        endWithQAndWithout();
        oneStateWithAStepAndWithout();
        eachOfFiveProcesses();
        processWithoutMoves();
        oneStateInWhichItIsIdle();
        stepWithinTheSet();
        bothOfAPair();
        wholeSetIsLookedAt();
        badByNoStepsAndBySteps();
        EXPECT.end();
    }

    // ---- promise 15

    /** "if there is no such fact", for p and for q; ahead of "if it is unexplored". */
    private static void factsOfLeads() {
        REFUSAL.outside("15: p", Expect.INDEX, Protocols::small, 0, 2, (x, p) -> x.leads(p, 0));
        REFUSAL.outside("15: q", Expect.INDEX, Protocols::small, 0, 2, (x, q) -> x.leads(0, q));
        REFUSAL.outside("15: p of 12", Expect.INDEX, Protocols::full, 0, 11, (x, p) -> x.leads(p, 11));
        REFUSAL.outside("15: q of 12", Expect.INDEX, Protocols::full, 0, 11, (x, q) -> x.leads(11, q));
        REFUSAL.outside("15: p, unexplored", Expect.INDEX, Protocols::smallUnexplored, 0, 2, (x, p) -> x.leads(p, 0));
        REFUSAL.outside("15: q, unexplored", Expect.INDEX, Protocols::smallUnexplored, 0, 2, (x, q) -> x.leads(0, q));
        FairChecker x = Protocols.full();
        EXPECT.same("15: from the first one to the last one", x.leads(0, 11), 0);
        EXPECT.same("15: from the last one to the first one", x.leads(11, 0), -1);
    }

    /** "if it is unexplored". */
    private static void leadsUnexplored() {
        REFUSAL.refused("15: unexplored", Expect.STATE, Protocols::smallUnexplored, x -> x.leads(0, 2));
        REFUSAL.refused("15: too many", Expect.STATE, Protocols.explored(Protocols::tooLongChain), x -> x.leads(0, 1));
    }

    /** "-1 if p leads to q": p holds nowhere, or q everywhere; or p everywhere, and q in the last state alone. */
    private static void leadsEverywhereAndNowhere() {
        for (FairChecker x : new FairChecker[] {Protocols.chain(), Protocols.round()}) {
            x.explore();
            EXPECT.same("15: p nowhere", x.leads(Protocols.NOWHERE, Protocols.NOWHERE), -1);
            EXPECT.same("15: q everywhere", x.leads(Protocols.EVERYWHERE, Protocols.EVERYWHERE), -1);
            EXPECT.same("15: q at last", x.leads(Protocols.EVERYWHERE, Protocols.LAST_ALONE), -1);
            EXPECT.same("15: q nowhere", x.leads(Protocols.EVERYWHERE, Protocols.NOWHERE), 0);
        }
    }

    /** "otherwise the first state in which p holds and that is bad": 0 to 399. */
    private static void firstOfLeads() {
        for (FairChecker x : new FairChecker[] {Protocols.chain(), Protocols.round()}) {
            x.explore();
            EXPECT.same("15: the first one", x.leads(Protocols.EVERYWHERE, Protocols.NOWHERE), 0);
            EXPECT.same("15: the last one", x.leads(Protocols.LAST_ALONE, Protocols.NOWHERE), MOST - 1);
            x.addFact(3, Protocols.LAST_ALONE, 0);
            EXPECT.same("15: all but the last one", x.leads(7, Protocols.NOWHERE), 0);
        }
        FairChecker chain = Protocols.explored(Protocols::chain).get();
        chain.addFact(1, 0, 0);
        chain.addFact(3, 7, 0);
        EXPECT.same("15: it is bad where q does not hold alone", chain.leads(Protocols.EVERYWHERE, 7), 391);
        EXPECT.same("15: behind the last q", chain.leads(Protocols.LAST_ALONE, 7), MOST - 1);
    }

    /** "q holds there or somewhere behind it": there, too. */
    private static void leadsToItself() {
        FairChecker x = Protocols.explored(Protocols::chain).get();
        for (int f = 0; f < 7; f++) {
            EXPECT.same("15: the fact " + f + " leads to itself", x.leads(f, f), -1);
        }
    }

    // ---- promise 16

    /** "if there is no such fact". */
    private static void factOfIsBad() {
        REFUSAL.outside("16: fact", Expect.INDEX, Protocols::small, 0, 2, (x, q) -> x.isBad(q, 0) ? 1 : 0);
        REFUSAL.outside("16: of 12", Expect.INDEX, Protocols::full, 0, 11, (x, q) -> x.isBad(q, 0) ? 1 : 0);
        FairChecker x = Protocols.full();
        EXPECT.isTrue("16: the first fact holds, that", !x.isBad(0, 0));
        EXPECT.isTrue("16: the last fact never holds, that", x.isBad(11, 0));
    }

    /** "if there is no such .. state". */
    private static void stateOfIsBad() {
        REFUSAL.outside("16: state", Expect.INDEX, Protocols::small, 0, 2, (x, s) -> x.isBad(0, s) ? 1 : 0);
        REFUSAL.outside("16: of 400", Expect.INDEX, Protocols.explored(Protocols::round), 0, MOST - 1,
            (x, s) -> x.isBad(Protocols.NOWHERE, s) ? 1 : 0);
        REFUSAL.outside("16: unexplored", Expect.INDEX, Protocols::smallUnexplored, 0, -1,
            (x, s) -> x.isBad(0, s) ? 1 : 0);
        REFUSAL.outside("16: too many", Expect.INDEX, Protocols.explored(Protocols::tooLongChain), 0, -1,
            (x, s) -> x.isBad(0, s) ? 1 : 0);
    }

    /** "whether the state is bad": each of 400, if there is one end, or a round, at the end of the longest way. */
    private static void badOfFourHundred() {
        for (FairChecker x : new FairChecker[] {Protocols.chain(), Protocols.round()}) {
            x.explore();
            for (int s = 0; s < MOST; s++) {
                EXPECT.isTrue("16: it never holds, " + s + " is bad, that", x.isBad(Protocols.NOWHERE, s));
            }
            for (int s : new int[] {0, 1, MOST - 2, MOST - 1}) {
                EXPECT.isTrue("16: it holds, " + s + " is not bad, that", !x.isBad(Protocols.EVERYWHERE, s));
                EXPECT.isTrue("16: it holds at last, " + s + " is not bad, that", !x.isBad(Protocols.LAST_ALONE, s));
            }
        }
    }

    // ---- promise 17

    /** "if there is no such fact"; ahead of "if it is unexplored". */
    private static void factOfTrapped() {
        REFUSAL.outside("17: fact", Expect.INDEX, Protocols::small, 0, 2, FairChecker::trapped);
        REFUSAL.outside("17: of 12", Expect.INDEX, Protocols::full, 0, 11, FairChecker::trapped);
        REFUSAL.outside("17: unexplored", Expect.INDEX, Protocols::smallUnexplored, 0, 2, FairChecker::trapped);
        FairChecker x = Protocols.full();
        EXPECT.same("17: of the first fact", x.trapped(0), 0);
        EXPECT.same("17: of the last fact", x.trapped(11), 1);
    }

    /** "if it is unexplored". */
    private static void trappedUnexplored() {
        REFUSAL.refused("17: unexplored", Expect.STATE, Protocols::smallUnexplored, x -> x.trapped(2));
        REFUSAL.refused("17: too many", Expect.STATE, Protocols.explored(Protocols::tooLongChain), x -> x.trapped(0));
    }

    /** "how many states belong to a trap": 0 to 400. */
    private static void noneAndAllTrapped() {
        FairChecker chain = Protocols.explored(Protocols::chain).get();
        EXPECT.same("17: the end alone", chain.trapped(Protocols.NOWHERE), 1);
        EXPECT.same("17: none", chain.trapped(Protocols.EVERYWHERE), 0);
        EXPECT.same("17: none, the end has q", chain.trapped(Protocols.LAST_ALONE), 0);
        FairChecker round = Protocols.explored(Protocols::round).get();
        EXPECT.same("17: all of a round", round.trapped(Protocols.NOWHERE), MOST);
        EXPECT.same("17: none", round.trapped(Protocols.EVERYWHERE), 0);
        EXPECT.same("17: none, one of the round has q", round.trapped(Protocols.LAST_ALONE), 0);
        FairChecker wide = Protocols.explored(() -> Protocols.wide(13, 11)).get();
        wide.addFact(0, 0, 0);
        wide.addFact(3, 0, 0);
        wide.addFact(4, 0, 1);
        EXPECT.same("17: 399 ends", wide.trapped(2), MOST - 1);
        EXPECT.same("17: 256 of them", wide.trapped(0), 256);
        EXPECT.same("17: 143 of them", wide.trapped(1), 143);
    }

    // ---- the terms

    /** A process that goes by these moves, from the first number to the second one; the fact l: it is at l. */
    private static FairChecker walk(int locations, int... moves) {
        FairChecker x = new FairChecker();
        x.addProcess(locations);
        for (int i = 0; i + 1 < moves.length; i += 2) {
            x.addMove(0, moves[i], moves[i + 1], 0);
        }
        for (int l = 0; l < locations; l++) {
            x.addFact(0, 0, l);
        }
        return x;
    }

    private static void sameTrap(String what, FairChecker x, int q, int trapped, int... bad) {
        EXPECT.same(what + ": states", x.explore(), bad.length);
        EXPECT.same(what + ": trapped(" + q + ")", x.trapped(q), trapped);
        for (int s = 0; s < bad.length && s < x.count(4); s++) {
            String text = what + ": isBad(" + q + ", " + s + ")";
            EXPECT.same(text, x.isBad(q, s) ? 1 : 0, bad[s]);
        }
    }

    /** "A state without q that has no steps is a trap, too"; "A run that ends is fair". */
    private static void endWithQAndWithout() {
        sameTrap("17: the end without q", walk(2, 0, 1), 0, 1, 0, 1);
        sameTrap("17: the end with q", walk(2, 0, 1), 1, 0, 0, 0);
        sameTrap("17: the beginning is an end without q", walk(2), 1, 1, 1);
        sameTrap("17: the beginning is an end with q", walk(2), 0, 0, 0);
    }

    /** "can be come to by steps within the set, by at least one step". */
    private static void oneStateWithAStepAndWithout() {
        sameTrap("17: it leads to itself", walk(3, 0, 1, 1, 1, 1, 2), 2, 1, 1, 1, 0);
        sameTrap("17: it does not", walk(3, 0, 1, 1, 2), 2, 0, 0, 0, 0);
        sameTrap("17: two lead to each other", walk(3, 0, 1, 1, 0, 1, 2), 2, 2, 1, 1, 0);
    }

    /** "for each process": one of five that could always go, and is left out. */
    private static void eachOfFiveProcesses() {
        for (int left = 0; left < 5; left++) {
            sameTrap("17: " + left + " would be left out", fiveProcesses(left, true), 0, 0, 0, 0, 0, 0);
            sameTrap("17: " + left + " has nothing to do", fiveProcesses(left, false), 0, 2, 1, 1);
        }
    }

    /** The one behind the one that is left out goes round; the fact is that the other one has gone. */
    private static FairChecker fiveProcesses(int left, boolean canGo) {
        FairChecker x = fiveAtTwo();
        int round = (left + 1) % 5;
        x.addMove(round, 0, 1, 0);
        x.addMove(round, 1, 0, 0);
        if (canGo) {
            x.addMove(left, 0, 1, 0);
        }
        x.addFact(0, left, 1);
        return x;
    }

    /** A process without moves takes no step in any state: it is not left out. */
    private static void processWithoutMoves() {
        for (int processes = 1; processes <= 5; processes++) {
            FairChecker x = Protocols.idle(processes);
            x.addMove(processes - 1, 0, 0, 0);
            x.addFact(0, 0, 0);
            x.addFact(3, 0, 0);
            sameTrap("17: " + processes + " processes, one of which goes", x, 1, 1, 1);
        }
    }

    /** "or there is a state in the set in which no step is taken by it": one of eight will do, none will not. */
    private static void oneStateInWhichItIsIdle() {
        for (int idle = -1; idle < 8; idle++) {
            FairChecker x = new FairChecker();
            x.addProcess(8);
            x.addProcess(2);
            x.addVariable(1, 0);
            for (int l = 0; l < 8; l++) {
                x.addMove(0, l, (l + 1) % 8, 0);
                x.deed(0, l, 1, 0, (l + 1) % 8 == idle ? 1 : 0);
            }
            x.addMove(1, 0, 1, 0);
            x.guard(1, 0, 1, 0, 0);
            x.addFact(0, 1, 1);
            x.addFact(0, 1, 0);
            x.explore();
            // At the beginning the variable is 0 in any case: the round begins behind it if idle is 0.
            EXPECT.same("17: idle at " + idle, x.trapped(0), idle < 0 ? 0 : 8);
            EXPECT.same("15: idle at " + idle, x.leads(1, 0), idle < 0 ? -1 : 0);
        }
    }

    /** "a step within the set is taken by it": one that leaves the set will not do. */
    private static void stepWithinTheSet() {
        sameTrap("17: the only step of 1 leaves the set", roundAndGo(), 0, 0, 0, 0, 0, 0);
        FairChecker x = roundAndGo();
        x.addMove(1, 0, 0, 0);
        sameTrap("17: one of its steps stays within the set", x, 0, 2, 1, 1, 0, 0);
    }

    /** Process 0 goes round between two locations; process 1 goes once. The fact: process 1 has gone. */
    private static FairChecker roundAndGo() {
        FairChecker x = new FairChecker();
        x.addProcess(2);
        x.addProcess(2);
        x.addMove(0, 0, 1, 0);
        x.addMove(0, 1, 0, 0);
        x.addMove(1, 0, 1, 0);
        x.addFact(0, 1, 1);
        return x;
    }

    /** "A step is taken by its process, or by both of a pair." */
    private static void bothOfAPair() {
        for (int a = 0; a < 5; a++) {
            for (int b = a + 1; b < 5; b++) {
                pairThatStays(a, b, a);
                pairThatStays(a, b, b);
                pairThatGoes(a, b, a);
                pairThatGoes(a, b, b);
            }
        }
    }

    /** What the pair does within the set counts for the one that could leave it, what the other one does does not. */
    private static void pairThatStays(int a, int b, int goer) {
        FairChecker x = fiveAtTwo();
        x.addMove(a, 0, 0, 1);
        x.addMove(b, 0, 0, 1);
        x.addMove(goer, 0, 1, 0);
        x.addFact(0, goer, 1);
        sameTrap("17: the pair stays, and " + goer + " may go", x, 0, 1, 1, 0);
        FairChecker y = fiveAtTwo();
        y.addMove(a + b - goer, 0, 0, 0);
        y.addMove(goer, 0, 1, 0);
        y.addFact(0, goer, 1);
        sameTrap("17: the other one stays alone, and " + goer + " may go", y, 0, 0, 0, 0);
    }

    /** An open pair that leaves the set is a step of both: no one of them is idle. */
    private static void pairThatGoes(int a, int b, int goer) {
        FairChecker x = fiveAtTwo();
        x.addMove(a + b - goer, 0, 0, 0);
        x.addMove(a, 0, 1, 2);
        x.addMove(b, 0, 1, 2);
        x.addFact(0, goer, 1);
        sameTrap("17: the other one stays alone, and the pair may go", x, 0, 0, 0, 0);
        x.addMove(goer, 0, 0, 0);
        sameTrap("17: both stay alone, and the pair may go", x, 0, 1, 1, 0);
    }

    private static FairChecker fiveAtTwo() {
        FairChecker x = new FairChecker();
        for (int p = 0; p < 5; p++) {
            x.addProcess(2);
        }
        return x;
    }

    /** "is told by the whole of this set": each of its states belongs to the trap, till q parts it. */
    private static void wholeSetIsLookedAt() {
        // 0 and 1 lead to each other, 1 and 2 as well; 2 leads to 3, too, and 3 to 0.
        int[] moves = {0, 1, 1, 0, 1, 2, 2, 1, 2, 3, 3, 0};
        sameTrap("17: the set of 0, 1 and 2", walk(4, moves), 3, 3, 1, 1, 1, 0);
        sameTrap("17: the set of 1, 2 and 3 is none without 0", walk(4, moves), 0, 2, 0, 1, 1, 0);
        sameTrap("17: without 1 none leads to itself", walk(4, moves), 1, 0, 0, 0, 0, 0);
        sameTrap("17: without 2 there are 0 and 1", walk(4, moves), 2, 2, 1, 1, 0, 1);
    }

    /** "by no steps, or by steps through states without q". */
    private static void badByNoStepsAndBySteps() {
        sameTrap("16: by no steps", walk(1, 0, 0), 0, 0, 0);
        sameTrap("16: by no, one and two steps", walk(4, 0, 1, 1, 2, 2, 2), 3, 1, 1, 1, 1);
        sameTrap("16: q is ahead of the trap", walk(4, 0, 1, 1, 2, 2, 2), 1, 1, 0, 0, 1);
        sameTrap("16: q is at the beginning", walk(4, 0, 1, 1, 2, 2, 2), 0, 1, 0, 1, 1);
        sameTrap("16: one way goes past q", walk(4, 0, 1, 1, 2, 0, 3, 3, 2, 2, 2), 1, 1, 1, 0, 1, 1);
    }
}
