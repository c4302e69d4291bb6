/** The document's "2 UNIT STEPS": each sentence that names a boundary case, under its own words. */
public final class EdgesOfStepsTest {
    private static final int NONE = ProofLines.NONE;
    private static final int UNTOLD = 2;
    private static final int CONFLICT = 3;

    private final Expect expect = new Expect("edges of steps");

    public static void main(String[] args) {
        EdgesOfStepsTest test = new EdgesOfStepsTest();
        test.expect.each(
                test::someAreAssumed, test::asLongAsSomethingComes, test::falseIsFalse, test::andByItsLiterals,
                test::literalsByATrueAnd, test::literalsByAFalseAnd, test::eithers, test::clauses, test::equalities,
                test::conflictOfALiteral, test::conflictOfAClause, test::clausesFollow, test::equalitiesFollow,
                test::goodLines);
        test.expect.end();
    }

    /** What is told of a gate with no, one or two literals assumed. */
    private static int told(ProofLines x, int gate, int... assumed) {
        return x.implied(assumed.length > 0 ? assumed[0] : NONE, assumed.length > 1 ? assumed[1] : NONE,
                assumed.length > 2 ? assumed[2] : NONE, gate);
    }

    private void someAreAssumed() {
        expect.words("Some literals are ASSUMED to be true.");
        ProofLines x = Scene.withInputs(6);
        expect.same("none", told(x, 1), UNTOLD);
        expect.same("one", told(x, 1, 2), 1);
        expect.same("one that is turned", told(x, 1, 3), 0);
        expect.same("the last of three", told(x, 3, 2, 4, 7), 0);
        expect.same("the same three times", told(x, 1, 3, 3, 3), 0);
        expect.same("those of the last call no more", told(x, 1), UNTOLD);
        Scene.clause(x, 2, 4, 6, 8, 10, 12);
        Scene.clause(x, 12, 10, 8, 6, 4, 2);
        expect.same("six: those of a full clause, turned", x.good(1), true);
    }

    private void asLongAsSomethingComes() {
        expect.words("Then, as long as something comes of it");
        for (int kind : new int[] {Scene.AND, Scene.EITHER}) {
            ProofLines x = Scene.withInputs(1);
            for (int gate = 2; gate <= 39; gate++) {
                x.gate(kind, 2 * gate - 2, kind == Scene.AND ? 1 : 0);
            }
            expect.same("from gate 1 to gate 39, kind " + kind, told(x, 39, 2), 1);
            expect.same("from gate 39 to gate 1, kind " + kind, told(x, 1, 78), 1);
            expect.same("from gate 39, false, to gate 1, kind " + kind, told(x, 1, 79), 0);
        }
        ProofLines y = Scene.withInputs(25);
        for (int gate = 25; gate > 1; gate--) {
            Scene.clause(y, 2 * gate - 1, 2 * gate);
        }
        expect.same("through 24 clauses, from the last to the first", told(y, 25, 2), 1);
        expect.same("through 24 clauses, from the first to the last", told(y, 1, 51), 0);
        ProofLines z = Scene.withInputs(13);
        for (int k = 1; k <= 12; k++) {
            z.gate(Scene.AND, 2 * k, 1);
        }
        for (int k = 12; k >= 1; k--) {
            z.equalLine(2 * (13 + k), 2 * (k + 1));
        }
        expect.same("through gates and lines by turns", told(z, 13, 2), 1);
        expect.same("and back", told(z, 1, 27), 0);
    }

    private void falseIsFalse() {
        expect.words("FALSE is false");
        ProofLines x = Scene.withInputs(3);
        expect.same("with nothing assumed", told(x, 0), 0);
        expect.same("with another one assumed", told(x, 0, 2), 0);
        expect.same("being assumed turned", told(x, 0, 1), 0);
        expect.same("being assumed", told(x, 1, 0), CONFLICT);
        x.equalLine(0, 3);
        expect.same("it tells what it equals", told(x, 1), 1);
        Scene.clause(x, 0, 5);
        expect.same("it is no help in a clause", told(x, 2), 0);
        Scene.clause(x, 1, 6);
        expect.same("turned it is", told(x, 3), UNTOLD);
        x.gate(Scene.EITHER, 0, 1);
        x.gate(Scene.AND, 0, 6);
        expect.same("in an either", told(x, 4), 1);
        expect.same("in an and", told(x, 5), 0);
    }

    private static ProofLines withGate(int kind, int a, int b) {
        ProofLines x = Scene.withInputs(2);
        x.gate(kind, a, b);
        return x;
    }

    private void andByItsLiterals() {
        expect.words("an and is false if one of its literals is, true if both are");
        ProofLines x = withGate(Scene.AND, 2, 5);
        expect.same("nothing is told", told(x, 3), UNTOLD);
        expect.same("the first is false", told(x, 3, 3), 0);
        expect.same("the second is false", told(x, 3, 4), 0);
        expect.same("both are false", told(x, 3, 3, 4), 0);
        expect.same("one is true, one is false", told(x, 3, 2, 4), 0);
        expect.same("the first is true", told(x, 3, 2), UNTOLD);
        expect.same("the second is true", told(x, 3, 5), UNTOLD);
        expect.same("both are true", told(x, 3, 2, 5), 1);
        ProofLines first = new ProofLines();
        first.gate(Scene.AND, 1, 1);
        expect.same("the first gate of all", told(first, 1), 1);
        ProofLines y = withGate(Scene.AND, 2, 2);
        expect.same("one twice: it is false", told(y, 3, 3), 0);
        expect.same("one twice: it is true", told(y, 3, 2), 1);
        ProofLines z = withGate(Scene.AND, 2, 3);
        expect.same("one and it turned: not told by itself", told(z, 3), UNTOLD);
        expect.same("one and it turned: it is true", told(z, 3, 2), 0);
        expect.same("one and it turned: it is false", told(z, 3, 3), 0);
    }

    private void literalsByATrueAnd() {
        expect.words("if it is true, both are");
        ProofLines x = withGate(Scene.AND, 2, 5);
        expect.same("the first", told(x, 1, 6), 1);
        expect.same("the second", told(x, 2, 6), 0);
        expect.same("the first, when it is not true", told(x, 1, 7), UNTOLD);
        ProofLines y = withGate(Scene.AND, 3, 3);
        expect.same("one twice", told(y, 1, 6), 0);
        ProofLines z = withGate(Scene.AND, 2, 3);
        expect.same("one and it turned", told(z, 1, 6), CONFLICT);
    }

    private void literalsByAFalseAnd() {
        expect.words("if it is false, and one is true, the other one is false");
        ProofLines x = withGate(Scene.AND, 2, 5);
        expect.same("the first is true", told(x, 2, 7, 2), 1);
        expect.same("the second is true", told(x, 1, 7, 5), 0);
        expect.same("none is true: the first", told(x, 1, 7), UNTOLD);
        expect.same("none is true: the second", told(x, 2, 7), UNTOLD);
        expect.same("one is false", told(x, 2, 7, 3), UNTOLD);
        expect.same("both are true", told(x, 0, 7, 2, 5), CONFLICT);
        ProofLines y = withGate(Scene.AND, 2, 2);
        expect.same("one twice, not told to be true", told(y, 1, 7), UNTOLD);
        expect.same("one twice, true", told(y, 1, 7, 2), CONFLICT);
        ProofLines z = withGate(Scene.AND, 1, 2);
        expect.same("FALSE turned is the true one", told(z, 1, 7), 0);
    }

    private void eithers() {
        expect.words("of an either and its two literals any two tell the third");
        ProofLines x = withGate(Scene.EITHER, 2, 4);
        expect.same("none", told(x, 3), UNTOLD);
        expect.same("one alone: the either", told(x, 3, 2), UNTOLD);
        expect.same("one alone: the other one", told(x, 2, 2), UNTOLD);
        expect.same("the either alone", told(x, 1, 6), UNTOLD);
        for (int given = 0; given < 4; given++) {
            int p = given & 1;
            int q = given >> 1;
            expect.same("both literals " + given, told(x, 3, 3 - p, 5 - q), p ^ q);
            expect.same("the either and the first " + given, told(x, 2, 7 - p, 3 - q), p ^ q);
            expect.same("the either and the second " + given, told(x, 1, 7 - p, 5 - q), p ^ q);
            expect.same("all three, as they may not be " + given, told(x, 0, 3 - p, 5 - q, 7 - (p ^ q ^ 1)), CONFLICT);
        }
        ProofLines first = new ProofLines();
        first.gate(Scene.EITHER, 1, 0);
        expect.same("the first gate of all", told(first, 1), 1);
        ProofLines y = withGate(Scene.EITHER, 2, 2);
        expect.same("one twice, not told", told(y, 3), UNTOLD);
        expect.same("one twice, told", told(y, 3, 2), 0);
        expect.same("one twice, the either being true", told(y, 1, 6), UNTOLD);
        ProofLines z = withGate(Scene.EITHER, 2, 3);
        expect.same("one and it turned, told", told(z, 3, 3), 1);
        expect.same("one and it turned, not told", told(z, 3), UNTOLD);
    }

    private void clauses() {
        expect.words("a clause of which all literals but one are false (counting equal ones once) has that one true");
        ProofLines x = Scene.withInputs(6);
        Scene.clause(x, 3);
        expect.same("one literal: no other one", told(x, 1), 0);
        x.clear();
        Scene.clause(x, 2, 4);
        expect.same("two literals, none false", told(x, 1), UNTOLD);
        expect.same("two literals, the first false", told(x, 2, 3), 1);
        expect.same("two literals, the second false", told(x, 1, 5), 1);
        expect.same("two literals, the first true", told(x, 2, 2), UNTOLD);
        x.clear();
        Scene.clause(x, 2, 2, 2);
        expect.same("one that came three times", told(x, 1), 1);
        x.clear();
        Scene.read(x, "c +1 -2 -2 +1 -2");
        expect.same("two that came again in a text", told(x, 2, 3), 0);
        x.clear();
        Scene.clause(x, 2, 3);
        expect.same("one and it turned are two", told(x, 1), UNTOLD);
        sixLiterals();
    }

    private void sixLiterals() {
        for (int open = 1; open <= 6; open++) {
            ProofLines x = Scene.withInputs(6);
            Scene.clause(x, 2, 4, 6, 8, 10, 12);
            int told = 0;
            for (int gate = 1; gate <= 6 && told < 4; gate++) {
                if (gate != open) {
                    Scene.clause(x, 2 * gate + 1);
                    told++;
                }
            }
            int last = open == 6 ? 5 : 6;
            expect.same("six literals, two not false, " + open, told(x, open), UNTOLD);
            expect.same("six literals, all false but " + open, told(x, open, 2 * last + 1), 1);
        }
    }

    private void equalities() {
        expect.words("of two equal literals one tells the other one");
        ProofLines x = Scene.withInputs(3);
        x.equalLine(2, 5);
        expect.same("none", told(x, 1), UNTOLD);
        expect.same("the first is true", told(x, 2, 2), 0);
        expect.same("the first is false", told(x, 2, 3), 1);
        expect.same("the second is true", told(x, 1, 5), 1);
        expect.same("the second is false", told(x, 1, 4), 0);
        expect.same("both, as they may not be", told(x, 0, 2, 4), CONFLICT);
        expect.same("another one", told(x, 1, 6), UNTOLD);
        x.clear();
        x.equalLine(2, 2);
        expect.same("of one literal, not told", told(x, 1), UNTOLD);
        expect.same("of one literal, told", told(x, 1, 3), 0);
        x.clear();
        x.equalLine(2, 3);
        expect.same("of one and it turned, not told", told(x, 1), UNTOLD);
        expect.same("of one and it turned, told", told(x, 1, 2), CONFLICT);
    }

    private void conflictOfALiteral() {
        expect.words("That comes to a CONFLICT if some literal is true and false by this");
        ProofLines x = Scene.withInputs(3);
        expect.same("of those that are assumed", told(x, 2, 2, 3), CONFLICT);
        expect.same("of the first and the last", told(x, 2, 3, 4, 2), CONFLICT);
        expect.same("not of others", told(x, 2, 2, 7), UNTOLD);
        x.gate(Scene.AND, 2, 4);
        expect.same("an and", told(x, 3, 8, 5), CONFLICT);
        x.gate(Scene.EITHER, 2, 4);
        expect.same("an either", told(x, 3, 10, 2, 4), CONFLICT);
        x.equalLine(2, 6);
        expect.same("an equality", told(x, 2, 2, 7), CONFLICT);
        Scene.clause(x, 5);
        Scene.clause(x, 4, 7);
        expect.same("two lines with what is assumed", told(x, 4, 6), CONFLICT);
        expect.same("the gate that is asked for is none of it", told(x, 0, 6), CONFLICT);
        Scene.clause(x, 6);
        expect.same("lines alone", told(x, 0), CONFLICT);
    }

    private void conflictOfAClause() {
        expect.words("or all literals of a clause are false");
        ProofLines x = Scene.withInputs(6);
        x.line();
        expect.same("of none", told(x, 1), CONFLICT);
        x.clear();
        Scene.clause(x, 0);
        expect.same("of FALSE", told(x, 1), CONFLICT);
        x.clear();
        Scene.clause(x, 2, 4, 6);
        expect.same("of three", told(x, 0, 3, 5, 7), CONFLICT);
        expect.same("of three, one true", told(x, 0, 3, 5, 6), 0);
        x.clear();
        Scene.clause(x, 2, 4, 6, 8, 10, 12);
        x.equalLine(2, 8);
        x.equalLine(4, 10);
        x.equalLine(6, 12);
        expect.same("of six", told(x, 0, 3, 5, 7), CONFLICT);
        expect.same("of six, the last true", told(x, 0, 3, 5, 12), 0);
    }

    private void clausesFollow() {
        expect.words("A clause FOLLOWS from lines if all its literals turned, being assumed, come to a conflict with"
                + " these lines");
        ProofLines x = Scene.withInputs(6);
        x.line();
        expect.same("one of none, from no lines", x.good(0), false);
        x.line();
        expect.same("one of none, from one of none", x.good(1), true);
        x.clear();
        Scene.clause(x, 0);
        expect.same("FALSE alone", x.good(0), false);
        x.clear();
        Scene.clause(x, 1);
        expect.same("FALSE turned alone", x.good(0), true);
        x.clear();
        Scene.clause(x, 2, 3);
        expect.same("one and it turned", x.good(0), true);
        x.clear();
        Scene.clause(x, 2);
        expect.same("one where there was it turned too", x.good(0), false);
        x.clear();
        Scene.clause(x, 2, 4, 6, 8, 10, 12);
        expect.same("six others", x.good(0), false);
        x.clear();
        Scene.clause(x, 2, 4, 6, 8, 10, 3);
        expect.same("six, the first and the last are needed", x.good(0), true);
        x.clear();
        Scene.clause(x, 2, 5);
        Scene.clause(x, 2, 4);
        Scene.clause(x, 2);
        Scene.clause(x, 3);
        expect.same("from two lines", x.good(2), true);
        expect.same("its literal is turned, not taken as it is", x.good(3), false);
    }

    private void equalitiesFollow() {
        expect.words("an equality of a and b if a and b turned do, and a turned and b do");
        ProofLines x = Scene.withInputs(2);
        x.equalLine(2, 4);
        expect.same("from no lines", x.good(0), false);
        x.clear();
        Scene.clause(x, 3, 4);
        x.equalLine(2, 4);
        expect.same("a and b turned alone", x.good(1), false);
        x.clear();
        Scene.clause(x, 2, 5);
        x.equalLine(2, 4);
        expect.same("a turned and b alone", x.good(1), false);
        x.clear();
        Scene.clause(x, 3, 4);
        Scene.clause(x, 2, 5);
        x.equalLine(2, 4);
        x.equalLine(5, 3);
        x.equalLine(2, 5);
        expect.same("both", x.good(2), true);
        expect.same("both, of what is turned", x.good(3), true);
        expect.same("not of one that is turned", x.good(4), false);
        x.clear();
        x.equalLine(3, 3);
        x.equalLine(0, 0);
        x.equalLine(0, 1);
        expect.same("of one literal", x.good(0), true);
        expect.same("of FALSE", x.good(1), true);
        expect.same("of FALSE and it turned", x.good(2), false);
        x.clear();
        x.equalLine(2, 3);
        expect.same("of one and it turned", x.good(0), false);
    }

    private void goodLines() {
        expect.words("A line is GOOD if it follows from all lines before it.");
        ProofLines x = Scene.withInputs(1);
        Scene.clause(x, 2);
        expect.same("the first one: not from itself", x.good(0), false);
        Scene.clause(x, 2);
        expect.same("nor from one behind it", x.good(0), false);
        expect.same("the second one: from the first, though that is not good", x.good(1), true);
        ProofLines y = Scene.withInputs(24);
        for (int line = 0; line < 23; line++) {
            y.equalLine(2 * line + 2, 2 * line + 4);
        }
        y.equalLine(2, 48);
        expect.same("the last one, from all 23 before it", y.good(23), true);
        expect.same("one before it, not from the last one", y.good(22), false);
        ProofLines z = Scene.withInputs(24);
        for (int line = 0; line < 22; line++) {
            z.equalLine(2 * line + 2, 2 * line + 4);
        }
        z.equalLine(2, 2);
        z.equalLine(2, 48);
        expect.same("the last one, when one of them is another one", z.good(23), false);
    }
}
