/** Promises 6 (check), 7 (good), 9 (implied) and 10 (shorten). */
public final class StepsTest {
    private static final int BIG = Integer.MAX_VALUE;
    private static final int SMALL = Integer.MIN_VALUE;
    private static final int NONE = ProofLines.NONE;

    public static void main(String[] args) {
        Expect expect = new Expect("steps");
        andSteps(expect);
        eitherSteps(expect);
        equalityAndClauseSteps(expect);
        conflicts(expect);
        longChains(expect);
        wrongImplied(expect);
        goodClauses(expect);
        goodEqualities(expect);
        wrongGood(expect);
        checks(expect);
        wrongClaims(expect);
        shortens(expect);
        shortensFromTheLast(expect);
        shortensALongerProof(expect);
        shortensNothing(expect);
        provesAnEqualityOfGates(expect);
        expect.end();
    }

    /** Gates 1 and 2 are inputs, 3 is an and or an either of 1 and 2 turned. */
    private static ProofLines withGate(int kind) {
        ProofLines x = Scene.withInputs(2);
        x.gate(kind, 2, 5);
        return x;
    }

    private static void andSteps(Expect expect) {
        ProofLines x = withGate(Scene.AND);
        expect.same("FALSE is false", x.implied(NONE, NONE, NONE, 0), 0);
        expect.same("nothing is told of an input", x.implied(NONE, NONE, NONE, 1), 2);
        expect.same("nothing is told of an and", x.implied(NONE, NONE, NONE, 3), 2);
        expect.same("left is false", x.implied(3, NONE, NONE, 3), 0);
        expect.same("right is false", x.implied(NONE, 4, NONE, 3), 0);
        expect.same("one is true", x.implied(NONE, NONE, 2, 3), 2);
        expect.same("both are true", x.implied(2, NONE, 5, 3), 1);
        expect.same("it is true: left", x.implied(6, NONE, NONE, 1), 1);
        expect.same("it is true: right", x.implied(6, NONE, NONE, 2), 0);
        expect.same("it is false: left", x.implied(7, NONE, NONE, 1), 2);
        expect.same("it is false, left is true: right", x.implied(7, 2, NONE, 2), 1);
        expect.same("it is false, right is true: left", x.implied(7, 5, NONE, 1), 0);
        expect.same("it is false, left is false: right", x.implied(7, 3, NONE, 2), 2);
        x.gate(Scene.AND, 2, 2);
        x.gate(Scene.AND, 2, 3);
        expect.same("an and of one literal twice is false: no other one is true", x.implied(9, NONE, NONE, 1), 2);
        expect.same("it tells it when it is true", x.implied(8, NONE, NONE, 1), 1);
        expect.same("an and of a literal and it turned is not told", x.implied(NONE, NONE, NONE, 5), 2);
        expect.same("till one of them is", x.implied(2, NONE, NONE, 5), 0);
        expect.same("and cannot be true", x.implied(10, NONE, NONE, 5), 3);
        ProofLines y = new ProofLines();
        y.gate(Scene.AND, 1, 1);
        y.gate(Scene.AND, 2, 0);
        expect.same("an and of truths, the first gate", y.implied(NONE, NONE, NONE, 1), 1);
        expect.same("an and of FALSE", y.implied(NONE, NONE, NONE, 2), 0);
        expect.same("its truth is a conflict", y.implied(4, NONE, NONE, 2), 3);
    }

    private static void eitherSteps(Expect expect) {
        ProofLines x = withGate(Scene.EITHER);
        expect.same("one tells nothing", x.implied(2, NONE, NONE, 3), 2);
        for (int given = 0; given < 4; given++) {
            int p = given & 1;
            int q = given >> 1;
            // 3 is just one of 1 and 2 turned: the turned 2 is 1 ^ its value.
            expect.same("both tell it " + given, x.implied(3 - p, 5 - q, NONE, 3), p ^ q ^ 1);
            expect.same("it and left tell right " + given, x.implied(3 - p, NONE, 7 - q, 2), p ^ q ^ 1);
            expect.same("it and right tell left " + given, x.implied(NONE, 5 - p, 7 - q, 1), p ^ q ^ 1);
        }
        x.gate(Scene.EITHER, 2, 2);
        x.gate(Scene.EITHER, 2, 3);
        expect.same("of one literal twice: not told", x.implied(NONE, NONE, NONE, 4), 2);
        expect.same("of one literal twice: false when it is told", x.implied(3, NONE, NONE, 4), 0);
        expect.same("of a literal and it turned: true when it is told", x.implied(3, NONE, NONE, 5), 1);
        expect.same("of one literal twice, being true, tells nothing alone", x.implied(8, NONE, NONE, 1), 2);
        expect.same("and conflicts with the literal", x.implied(8, 2, NONE, 1), 3);
        x.gate(Scene.EITHER, 2, 1);
        expect.same("of a literal and true", x.implied(2, NONE, NONE, 6), 0);
        expect.same("backwards", x.implied(12, NONE, NONE, 1), 0);
    }

    private static void equalityAndClauseSteps(Expect expect) {
        ProofLines x = Scene.withInputs(8);
        x.equalLine(2, 5);
        expect.same("of two equal literals left tells right", x.implied(2, NONE, NONE, 2), 0);
        expect.same("and false too", x.implied(3, NONE, NONE, 2), 1);
        expect.same("right tells left", x.implied(5, NONE, NONE, 1), 1);
        expect.same("and false", x.implied(4, NONE, NONE, 1), 0);
        expect.same("none tells nothing", x.implied(NONE, NONE, NONE, 1), 2);
        Scene.clause(x, 6, 9, 10);
        expect.same("one is false", x.implied(7, NONE, NONE, 5), 2);
        expect.same("all but the last", x.implied(7, 8, NONE, 5), 1);
        expect.same("all but the middle", x.implied(7, 11, NONE, 4), 0);
        expect.same("all but the first", x.implied(8, NONE, 11, 3), 1);
        expect.same("one is true", x.implied(6, 8, NONE, 5), 2);
        Scene.clause(x, 13);
        expect.same("one literal alone", x.implied(NONE, NONE, NONE, 6), 0);
        Scene.clause(x, 0, 14);
        expect.same("FALSE counts as false", x.implied(NONE, NONE, NONE, 7), 1);
        Scene.clause(x, 1, 16);
        expect.same("FALSE turned counts as true", x.implied(NONE, NONE, NONE, 8), 2);
    }

    private static void conflicts(Expect expect) {
        ProofLines x = Scene.withInputs(3);
        expect.same("a literal and it turned", x.implied(2, NONE, 3, 2), 3);
        expect.same("FALSE", x.implied(0, NONE, NONE, 2), 3);
        expect.same("FALSE turned", x.implied(1, 1, 1, 0), 0);
        expect.same("one literal three times", x.implied(2, 2, 2, 1), 1);
        x.equalLine(2, 3);
        expect.same("equal to it turned, nothing being told", x.implied(NONE, NONE, NONE, 1), 2);
        expect.same("equal to it turned", x.implied(2, NONE, NONE, 1), 3);
        expect.same("equal to it turned, turned", x.implied(3, NONE, NONE, 3), 3);
        Scene.clause(x, 4, 6);
        expect.same("all literals of a clause are false", x.implied(5, 7, NONE, 1), 3);
        Scene.clause(x, 4, 7);
        expect.same("two clauses", x.implied(5, NONE, NONE, 0), 3);
        Scene.clause(x, 0);
        expect.same("a clause of FALSE", x.implied(NONE, NONE, NONE, 0), 3);
        x.clear();
        x.line();
        expect.same("a clause of nothing", x.implied(NONE, NONE, NONE, 0), 3);
    }

    /** Each step waits for one that stands behind it, so that many rounds are needed. */
    private static void longChains(Expect expect) {
        ProofLines x = Scene.withInputs(1);
        for (int gate = 2; gate < 40; gate++) {
            x.gate(Scene.AND, 2 * (gate - 1), 1);
        }
        expect.same("down a chain of ands", x.implied(78, NONE, NONE, 1), 1);
        expect.same("up a chain of ands", x.implied(3, NONE, NONE, 39), 0);
        ProofLines y = Scene.withInputs(25);
        for (int gate = 25; gate > 1; gate--) {
            y.equalLine(2 * gate, 2 * gate - 1);
        }
        expect.same("up a chain of equalities", y.implied(2, NONE, NONE, 25), 1);
        expect.same("down a chain of equalities", y.implied(51, NONE, NONE, 1), 0);
        ProofLines z = new ProofLines();
        for (int gate = 1; gate <= 14; gate++) {
            z.gate(Scene.INPUT, 0, 0);
        }
        for (int gate = 15; gate < 40; gate++) {
            z.gate(Scene.EITHER, 2 * (gate - 1), 1);
        }
        Scene.clause(z, 79);
        expect.same("down a chain of eithers", z.implied(NONE, NONE, NONE, 14), 1);
        expect.same("what is no part of it", z.implied(NONE, NONE, NONE, 13), 2);
    }

    private static void wrongImplied(Expect expect) {
        ProofLines x = Scene.withInputs(2);
        for (int literal : new int[] {-2, -3, 6, 7, 80, SMALL, BIG}) {
            expect.noIndex("implied a " + literal, () -> x.implied(literal, NONE, NONE, 0));
            expect.noIndex("implied b " + literal, () -> x.implied(NONE, literal, NONE, 0));
            expect.noIndex("implied c " + literal, () -> x.implied(NONE, NONE, literal, 0));
        }
        for (int gate : new int[] {NONE, -2, 3, 40, SMALL, BIG}) {
            expect.noIndex("implied gate " + gate, () -> x.implied(NONE, NONE, NONE, gate));
        }
        expect.noIndex("no gate, a conflict", () -> x.implied(2, 3, NONE, 3));
    }

    private static void goodClauses(Expect expect) {
        ProofLines x = withGate(Scene.AND);
        Scene.clause(x, 7, 2);
        Scene.clause(x, 7, 4);
        Scene.clause(x, 6, 3, 4);
        Scene.clause(x, 2, 3);
        Scene.clause(x, 1);
        Scene.clause(x, 4);
        Scene.clause(x, 7);
        boolean[] due = {true, false, true, true, true, false, true};
        for (int line = 0; line < due.length; line++) {
            expect.same("good(" + line + ")", x.good(line), due[line]);
        }
        x.clear();
        Scene.clause(x, 2);
        Scene.clause(x, 2);
        Scene.clause(x, 2, 4);
        expect.same("not from itself or later ones", x.good(0), false);
        expect.same("from the line before, though it is bad", x.good(1), true);
        expect.same("from part of it", x.good(2), true);
        x.clear();
        x.line();
        Scene.clause(x, 2);
        x.line();
        x.equalLine(2, 3);
        expect.same("a clause of nothing does not follow from no lines", x.good(0), false);
        expect.same("all follows from a clause of nothing", x.good(1), true);
        expect.same("such a clause too", x.good(2), true);
        expect.same("an equality too", x.good(3), true);
        x.clear();
        Scene.clause(x, 2, 3);
        x.clear();
        Scene.clause(x, 2);
        expect.same("what was in a line before it was cleared does not matter", x.good(0), false);
    }

    private static void goodEqualities(Expect expect) {
        ProofLines x = withGate(Scene.AND);
        x.gate(Scene.AND, 5, 2);
        x.gate(Scene.AND, 3, 4);
        x.equalLine(6, 8);
        x.equalLine(7, 9);
        x.equalLine(6, 9);
        expect.same("two ands of the same", x.good(0), true);
        expect.same("both turned", x.good(1), true);
        expect.same("one turned", x.good(2), false);
        x.clear();
        Scene.clause(x, 3, 4);
        x.equalLine(2, 4);
        expect.same("one way alone, first turned", x.good(1), false);
        x.clear();
        Scene.clause(x, 2, 5);
        x.equalLine(2, 4);
        expect.same("the other way alone", x.good(1), false);
        x.clear();
        Scene.clause(x, 2, 5);
        Scene.clause(x, 3, 4);
        x.equalLine(2, 4);
        expect.same("both ways", x.good(2), true);
        x.clear();
        x.equalLine(2, 2);
        x.equalLine(2, 3);
        expect.same("of one literal", x.good(0), true);
        expect.same("of a literal and it turned", x.good(1), false);
    }

    private static void wrongGood(Expect expect) {
        ProofLines x = Scene.withInputs(1);
        x.equalLine(2, 2);
        for (int line : new int[] {-1, 1, 24, SMALL, BIG}) {
            expect.noIndex("good(" + line + ")", () -> x.good(line));
        }
    }

    private static void checks(Expect expect) {
        ProofLines x = withGate(Scene.EITHER);
        x.gate(Scene.EITHER, 6, 6);
        expect.same("a claim that is true, but not by unit steps", x.check(9), 1);
        x.equalLine(6, 6);
        x.equalLine(6, 7);
        expect.same("the first bad line", x.check(1), 2);
        x.clear();
        Scene.clause(x, 3, 2);
        Scene.clause(x, 1, 4);
        expect.same("good lines, no claim", x.check(9), 3);
        expect.same("good lines and the claim", x.check(1), 0);
        x.clear();
        Scene.clause(x, 9);
        expect.same("the claim is no line before the line", x.check(9), 1);
        x.clear();
        Scene.clause(x, 9, 7);
        Scene.clause(x, 9);
        expect.same("a cut: on 6 first", x.check(9), 0);
        expect.same("after it, more than its lines", x.check(2), 3);
    }

    private static void wrongClaims(Expect expect) {
        ProofLines x = Scene.withInputs(2);
        x.equalLine(2, 2);
        for (int claim : new int[] {-1, -2, 6, 7, 80, SMALL, BIG}) {
            expect.noIndex("check(" + claim + ")", () -> x.check(claim));
            expect.noIndex("shorten(" + claim + ")", () -> x.shorten(claim));
        }
        x.line();
        expect.noIndex("no claim, bad lines", () -> x.check(6));
        expect.noIndex("no claim to shorten for, bad lines", () -> x.shorten(6));
        expect.same("wrong claims change", Scene.lines(x), "[1 2 2 2][0 0]");
    }

    private static void shortens(Expect expect) {
        ProofLines x = withGate(Scene.EITHER);
        x.gate(Scene.EITHER, 6, 6);
        x.equalLine(2, 2);
        Scene.clause(x, 9, 7);
        Scene.clause(x, 2, 3, 4, 6, 5);
        x.equalLine(6, 6);
        expect.same("shorten to the one that is needed", x.shorten(9), 1);
        expect.same("it has moved up", Scene.lines(x), "[0 2 9 7]");
        expect.same("its claim stands", x.check(9), 0);
        expect.same("once more", x.shorten(9), 1);
        expect.same("for a claim that needs none", x.shorten(1), 0);
        expect.same("no line is left", Scene.everything(x),
                "5 gates, 2 inputs, 0 lines , 0 bytes on the tape, 0 bytes of text ");
        expect.same("none to shorten", x.shorten(1), 0);
        Scene.clause(x, 9, 7);
        x.equalLine(9, 1);
        Scene.clause(x, 3, 2);
        expect.same("the equality goes, the clause before it is enough", x.shorten(9), 1);
        expect.same("what is left", Scene.text(x), "c -4 -3\n");
        expect.same("a new line behind it", x.line(), 1);
        expect.same("is empty", x.lineAt(1, 1), 0);
    }

    /** Any one of the like lines would do: from the last one on, the first one stays. */
    private static void shortensFromTheLast(Expect expect) {
        ProofLines x = withGate(Scene.EITHER);
        x.gate(Scene.EITHER, 6, 6);
        Scene.clause(x, 3, 2);
        Scene.clause(x, 9, 7);
        Scene.clause(x, 9, 6);
        Scene.clause(x, 9, 3, 2);
        Scene.clause(x, 9);
        expect.same("alike: how many", x.shorten(9), 1);
        expect.same("alike: the first one is left", Scene.lines(x), "[0 2 9 7]");
        x.clear();
        Scene.clause(x, 9, 6);
        Scene.clause(x, 9, 7);
        x.shorten(9);
        expect.same("alike, the other way round", Scene.lines(x), "[0 2 9 6]");
    }

    /** Lines that later lines need stay, though the claim alone does not. */
    private static void shortensALongerProof(Expect expect) {
        ProofLines x = parityOfThree();
        expect.same("no proof without lines", x.check(19), 1);
        Scene.read(x, "c +1 -1\n" + PARITY_BY_CASES + "= +2 +2\nc -9 -6\nc -9\n");
        expect.same("the proof stands", x.check(19), 0);
        int before = x.count(2);
        int left = x.shorten(19);
        expect.same("some are left out", left > 0 && left < before, true);
        expect.same("so many are left", x.count(2), left);
        expect.same("it still stands", x.check(19), 0);
        for (int line = 0; line < left; line++) {
            expect.same("each line that is left is needed, " + line, checkWithout(x, line, 19) != 0, true);
        }
    }

    private static final String PARITY_BY_CASES = "c -1 -2 -6 +8\nc -1 -6 +8\nc +1 -2 -6 +8\nc -6 +8\n"
            + "c -1 -2 +6 -8\nc -1 +6 -8\nc +1 -2 +6 -8\nc +6 -8\n= +8 +6\n";

    /** Gate 6 is (1 + 2) + 3, gate 8 is 1 + (2 + 3), and gate 9 says that they differ. */
    private static ProofLines parityOfThree() {
        ProofLines x = Scene.withInputs(3);
        x.gate(Scene.AND, 1, 1);
        x.gate(Scene.EITHER, 2, 4);
        x.gate(Scene.EITHER, 10, 6);
        x.gate(Scene.EITHER, 4, 6);
        x.gate(Scene.EITHER, 2, 14);
        x.gate(Scene.EITHER, 12, 16);
        return x;
    }

    private static int checkWithout(ProofLines x, int left, int claim) {
        ProofLines y = parityOfThree();
        String[] lines = Scene.text(x).split("\n");
        StringBuilder rest = new StringBuilder();
        for (int line = 0; line < lines.length; line++) {
            rest.append(line == left ? "" : lines[line] + "\n");
        }
        Scene.read(y, rest.toString());
        return y.check(claim);
    }

    private static void shortensNothing(Expect expect) {
        ProofLines x = withGate(Scene.EITHER);
        x.equalLine(2, 2);
        expect.same("no claim", x.shorten(2), NONE);
        Scene.clause(x, 2);
        expect.same("a bad line", x.shorten(1), NONE);
        expect.same("a bad line tells the claim", x.shorten(2), NONE);
        expect.same("nothing changes", Scene.lines(x), "[1 2 2 2][0 1 2]");
        x.clear();
        Scene.clause(x, 2);
        x.equalLine(2, 2);
        expect.same("the first line is bad", x.shorten(1), NONE);
        expect.same("nothing changes, neither", Scene.lines(x), "[0 1 2][1 2 2 2]");
    }

    private static void provesAnEqualityOfGates(Expect expect) {
        ProofLines x = parityOfThree();
        Scene.read(x, "= +6 +8\n");
        expect.same("both parities at once are not told", x.good(0), false);
        x.clear();
        expect.same("by cases", Scene.read(x, PARITY_BY_CASES), 9);
        for (int line = 0; line < 9; line++) {
            expect.same("good line " + line, x.good(line), true);
        }
        expect.same("that they differ is not told false yet", x.check(19), 10);
        Scene.read(x, "c -9 -6");
        expect.same("but by one case more", x.check(19), 0);
    }
}
