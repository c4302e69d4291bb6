/** Promises 1 to 8: each sentence that names a boundary case, under its own words. */
public final class EdgesOfEarlyPromisesTest {
    private static final int BIG = Integer.MAX_VALUE;
    private static final int SMALL = Integer.MIN_VALUE;
    private static final int NONE = ProofLines.NONE;

    private final Expect expect = new Expect("edges of promises 1 to 8");

    public static void main(String[] args) {
        EdgesOfEarlyPromisesTest test = new EdgesOfEarlyPromisesTest();
        test.expect.each(
                test::newObject, test::newGate, test::newGateOfNoLiteral, test::newGateOfNoKind,
                test::newGateWithoutRoom, test::newClause, test::newClauseWithoutRoom, test::oneMoreLiteral,
                test::literalOfNothing, test::literalOfAnEquality, test::literalWithoutRoom, test::newEquality,
                test::newEqualityOfNothing, test::newEqualityWithoutRoom, test::checked, test::checkedWithAllLines,
                test::checkedForNoClaim, test::goodLine, test::goodOfNoLine, test::partsOfALine, test::partsOfNoLine);
        test.expect.end();
    }

    private void newObject() {
        expect.words("Promise 1: FALSE alone, no lines, an empty tape.");
        ProofLines x = new ProofLines();
        expect.same("gates", x.count(0), 1);
        expect.same("inputs", x.count(1), 0);
        expect.same("FALSE", x.holds(1, 0L), true);
        expect.noIndex("a second gate", () -> x.holds(2, 0L));
        expect.same("lines", x.count(2), 0);
        expect.noIndex("a first line", () -> x.lineAt(0, 0));
        expect.same("bytes of the text", x.count(4), 0);
        expect.same("bytes on the tape", x.count(3), 0);
        expect.same("the empty tape is a text", x.read(), 0);
        ProofLines other = Scene.withInputs(3);
        other.line();
        other.unit('x');
        expect.same("no other object changes it", Scene.everything(x), Scene.everything(new ProofLines()));
    }

    private void newGate() {
        expect.words("Promise 2: A new gate (an input does not mind a and b): its number.");
        ProofLines x = new ProofLines();
        expect.same("a and b far too small", x.gate(Scene.INPUT, SMALL, -1), 1);
        expect.same("a and b far too great", x.gate(Scene.INPUT, BIG, 80), 2);
        expect.same("a and b that are there", x.gate(Scene.INPUT, 2, 5), 3);
        expect.same("a and b tell nothing of it", x.implied(2, 5, NONE, 3), 2);
        expect.same("an and of itself is none yet", Expect.outcome(() -> x.gate(Scene.AND, 8, 0)),
                "throws.IndexOutOfBoundsException");
        expect.same("an and of the last gate", x.gate(Scene.AND, 7, 7), 4);
        expect.same("a like one is another gate", x.gate(Scene.AND, 7, 7), 5);
        expect.same("inputs", x.count(1), 3);
        for (int gate = 6; gate < 39; gate++) {
            x.gate(Scene.INPUT, 0, 0);
        }
        expect.same("the last one, an input that does not mind", x.gate(Scene.INPUT, -7, 1000), 39);
    }

    private void newGateOfNoLiteral() {
        expect.words("Promise 2: IndexOutOfBoundsException: of a literal (not for inputs)");
        ProofLines x = Scene.withInputs(2);
        for (int wrong : new int[] {-1, 6, 7, 80, SMALL, BIG}) {
            for (int kind : new int[] {Scene.AND, Scene.EITHER}) {
                expect.noIndex("a " + wrong + " of kind " + kind, () -> x.gate(kind, wrong, 5));
                expect.noIndex("b " + wrong + " of kind " + kind, () -> x.gate(kind, 5, wrong));
                expect.noIndex("a and b " + wrong + " of kind " + kind, () -> x.gate(kind, wrong, wrong));
            }
        }
        expect.same("an input", x.gate(Scene.INPUT, 80, 80), 3);
        expect.same("the greatest literals", x.gate(Scene.AND, 7, 6), 4);
        expect.same("the least literals", x.gate(Scene.EITHER, 0, 0), 5);
    }

    private void newGateOfNoKind() {
        expect.words("Promise 2: IllegalArgumentException: no such kind");
        ProofLines x = Scene.withInputs(1);
        for (int kind : new int[] {-1, 3, 4, 256, 257, 258, SMALL, SMALL + 1, BIG}) {
            expect.noArgument("kind " + kind, () -> x.gate(kind, 2, 3));
        }
        expect.same("gates", x.count(0), 2);
        expect.same("the least kind", x.gate(0, 2, 3), 2);
        expect.same("the greatest kind", x.gate(2, 2, 3), 3);
    }

    private void newGateWithoutRoom() {
        expect.words("Promise 2: UnsupportedOperationException.");
        ProofLines x = Scene.withInputs(38);
        expect.same("the last one", x.gate(Scene.EITHER, 1, 0), 39);
        for (int kind = 0; kind < 3; kind++) {
            int one = kind;
            expect.noRoom("kind " + kind, () -> x.gate(one, 0, 0));
        }
        expect.same("gates", x.count(0), 40);
        expect.same("inputs", x.count(1), 38);
        x.clear();
        expect.noRoom("after clear()", () -> x.gate(Scene.INPUT, 0, 0));
    }

    private void newClause() {
        expect.words("Promise 3: A new clause without literals: its line.");
        ProofLines x = Scene.withInputs(3);
        expect.same("the first", x.line(), 0);
        expect.same("is a clause", x.lineAt(0, 0), 0);
        expect.same("without literals", x.lineAt(0, 1), 0);
        Scene.read(x, "c +1 +2\nc +1\n= +2 +3");
        x.clear();
        x.line();
        x.line();
        x.line();
        expect.same("the fourth", x.line(), 3);
        expect.same("without what stood there before", Scene.lines(x), "[0 0][0 0][0 0][0 0]");
    }

    private void newClauseWithoutRoom() {
        expect.words("Promise 3: UnsupportedOperationException.");
        ProofLines x = new ProofLines();
        for (int line = 0; line < 23; line++) {
            x.equalLine(0, 0);
        }
        expect.same("the last one", x.line(), 23);
        expect.noRoom("one more", () -> x.line());
        expect.noRoom("and again", () -> x.line());
        expect.same("lines", x.count(2), 24);
    }

    private void oneMoreLiteral() {
        expect.words("Promise 4: One more literal of a clause: whether it was not in it (else it is not there twice).");
        ProofLines x = Scene.withInputs(6);
        x.line();
        x.line();
        expect.same("the first", x.literal(0, 3), true);
        expect.same("it again", x.literal(0, 3), false);
        expect.same("it turned", x.literal(0, 2), true);
        expect.same("FALSE", x.literal(0, 0), true);
        expect.same("FALSE again", x.literal(0, 0), false);
        expect.same("FALSE turned", x.literal(0, 1), true);
        expect.same("of another line", x.literal(1, 3), true);
        expect.same("how many", x.lineAt(0, 1), 4);
        x.literal(0, 12);
        x.literal(0, 13);
        for (int literal : new int[] {3, 2, 0, 1, 12, 13}) {
            expect.same("of six, again " + literal, x.literal(0, literal), false);
        }
        expect.same("as they came", Scene.lines(x), "[0 6 3 2 0 1 12 13][0 1 3]");
        x.clear();
        x.line();
        expect.same("one that was in it before clear()", x.literal(0, 3), true);
    }

    private void literalOfNothing() {
        expect.words("Promise 4: IndexOutOfBoundsException;");
        ProofLines x = Scene.withInputs(2);
        expect.noIndex("of line 0 when there is none", () -> x.literal(0, 2));
        x.line();
        for (int line : new int[] {-1, 1, 23, 24, SMALL, BIG}) {
            expect.noIndex("line " + line, () -> x.literal(line, 2));
        }
        for (int literal : new int[] {-1, 6, 7, 80, SMALL, BIG}) {
            expect.noIndex("literal " + literal, () -> x.literal(0, literal));
        }
        expect.same("the greatest literal", x.literal(0, 5), true);
        expect.same("how many", x.lineAt(0, 1), 1);
    }

    private void literalOfAnEquality() {
        expect.words("Promise 4: IllegalArgumentException: the line is an equality");
        ProofLines x = Scene.withInputs(2);
        x.equalLine(2, 4);
        x.line();
        expect.noArgument("another one", () -> x.literal(0, 0));
        expect.noArgument("one that it has", () -> x.literal(0, 4));
        expect.same("it stays", x.lineAt(0, 1), 2);
        expect.same("the clause behind it", x.literal(1, 4), true);
        x.clear();
        x.line();
        expect.same("a clause where an equality was", x.literal(0, 4), true);
    }

    private void literalWithoutRoom() {
        expect.words("Promise 4: UnsupportedOperationException: it has 6 others.");
        ProofLines x = Scene.withInputs(6);
        Scene.clause(x, 2, 4, 6, 8, 10);
        expect.same("it has 5 others", x.literal(0, 12), true);
        expect.noRoom("it has 6 others", () -> x.literal(0, 0));
        expect.noRoom("it has 6 others, and it turned", () -> x.literal(0, 3));
        expect.same("it is one of 6", x.literal(0, 12), false);
        expect.same("it is the first of 6", x.literal(0, 2), false);
        expect.same("how many", x.lineAt(0, 1), 6);
        Scene.read(x, "c +1 +2 +3 +4 +5 +6");
        expect.noRoom("it was read with 6 others", () -> x.literal(1, 0));
    }

    private void newEquality() {
        expect.words("Promise 5: A new equality: its line.");
        ProofLines x = Scene.withInputs(1);
        expect.same("the first", x.equalLine(0, 3), 0);
        x.line();
        expect.same("the third, of one twice", x.equalLine(3, 3), 2);
        expect.same("a like one is another line", x.equalLine(3, 3), 3);
        expect.same("of one and it turned", x.equalLine(3, 2), 4);
        expect.same("all of them", Scene.lines(x), "[1 2 0 3][0 0][1 2 3 3][1 2 3 3][1 2 3 2]");
        x.clear();
        Scene.clause(x, 0, 1, 2, 3);
        x.clear();
        x.equalLine(2, 3);
        expect.same("where a clause was", Scene.lines(x), "[1 2 2 3]");
    }

    private void newEqualityOfNothing() {
        expect.words("Promise 5: IndexOutOfBoundsException;");
        ProofLines x = Scene.withInputs(2);
        for (int wrong : new int[] {-1, 6, 7, 80, SMALL, BIG}) {
            expect.noIndex("a " + wrong, () -> x.equalLine(wrong, 0));
            expect.noIndex("b " + wrong, () -> x.equalLine(0, wrong));
        }
        expect.same("lines", x.count(2), 0);
        expect.same("the greatest literals", x.equalLine(5, 5), 0);
    }

    private void newEqualityWithoutRoom() {
        expect.words("Promise 5: UnsupportedOperationException.");
        ProofLines x = new ProofLines();
        for (int line = 0; line < 23; line++) {
            x.line();
        }
        expect.same("the last one", x.equalLine(0, 1), 23);
        expect.noRoom("one more", () -> x.equalLine(0, 1));
        expect.same("lines", x.count(2), 24);
    }

    private void checked() {
        expect.words("Promise 6: Whether all lines are good, and then the claim follows (a clause of this literal"
                + " alone): 0; 1 and the first line that is not good, or (for the claim) as many as there are lines.");
        ProofLines x = Scene.withInputs(2);
        expect.same("no lines, FALSE turned", x.check(1), 0);
        expect.same("no lines, FALSE", x.check(0), 1);
        expect.same("no lines, an input", x.check(2), 1);
        x.line();
        expect.same("a bad first line, though all follows from it", x.check(1), 1);
        expect.same("a bad first line, and the claim is it", x.check(0), 1);
        x.clear();
        x.equalLine(2, 2);
        Scene.clause(x, 2);
        Scene.clause(x, 4);
        expect.same("two bad lines", x.check(1), 2);
        expect.same("the claim would follow from a bad line", x.check(2), 2);
        x.clear();
        Scene.clause(x, 2, 3);
        expect.same("one good line, a claim that follows", x.check(1), 0);
        expect.same("one good line, a claim that does not", x.check(2), 2);
        expect.same("nor when it is turned", x.check(3), 2);
        x.gate(Scene.EITHER, 2, 2);
        expect.same("a claim that needs a line", x.check(7), 2);
        Scene.clause(x, 7, 3);
        expect.same("a claim that follows by the last line", x.check(7), 0);
    }

    /** The same words of the document, where the answer is the greatest. */
    private void checkedWithAllLines() {
        ProofLines x = Scene.withInputs(1);
        for (int line = 0; line < 23; line++) {
            x.equalLine(2, 2);
        }
        expect.same("23 good lines, no claim", x.check(2), 24);
        x.line();
        expect.same("the last line is bad", x.check(1), 24);
        expect.same("the last line is bad, no claim", x.check(2), 24);
        x.literal(23, 1);
        expect.same("24 good lines", x.check(1), 0);
        expect.same("24 good lines, no claim", x.check(2), 25);
    }

    private void checkedForNoClaim() {
        expect.words("Promise 6: IndexOutOfBoundsException.");
        ProofLines x = Scene.withInputs(2);
        for (int claim : new int[] {-1, -2, 6, 7, 80, SMALL, BIG}) {
            expect.noIndex("claim " + claim, () -> x.check(claim));
        }
        x.line();
        expect.noIndex("no claim when a line is bad", () -> x.check(6));
        expect.same("the greatest claim", x.check(5), 1);
    }

    private void goodLine() {
        expect.words("Promise 7: Whether a line follows from all lines before it.");
        ProofLines x = Scene.withInputs(3);
        Scene.clause(x, 2);
        Scene.clause(x, 3, 4);
        Scene.clause(x, 5, 6);
        Scene.clause(x, 6);
        Scene.clause(x, 7);
        Scene.clause(x, 0);
        expect.same("the first: none is before it", x.good(0), false);
        expect.same("the second", x.good(1), false);
        expect.same("the fourth, by all three", x.good(3), true);
        expect.same("the fifth, against them", x.good(4), false);
        expect.same("the sixth, as they conflict", x.good(5), true);
        for (int line = 6; line < 24; line++) {
            x.line();
        }
        expect.same("the last, as they conflict", x.good(23), true);
    }

    private void goodOfNoLine() {
        expect.words("Promise 7: IndexOutOfBoundsException.");
        ProofLines x = new ProofLines();
        for (int line : new int[] {-1, 0, 1, 24, SMALL, BIG}) {
            expect.noIndex("line " + line + " of none", () -> x.good(line));
        }
        x.equalLine(0, 0);
        expect.same("line 0", x.good(0), true);
        expect.noIndex("line 1", () -> x.good(1));
        x.clear();
        expect.noIndex("line 0 after clear()", () -> x.good(0));
    }

    private void partsOfALine() {
        expect.words("Promise 8: Of a line: i = 0 its kind: 0 a clause, 1 an equality; 1 how many literals; from 2 on"
                + " these, in the order in which they came.");
        ProofLines x = Scene.withInputs(39);
        x.line();
        Scene.clause(x, 79, 0, 78, 1, 20, 3);
        x.equalLine(79, 0);
        int[][] due = {{0, 0}, {0, 6, 79, 0, 78, 1, 20, 3}, {1, 2, 79, 0}};
        for (int line = 0; line < due.length; line++) {
            for (int i = 0; i < due[line].length; i++) {
                expect.same("lineAt(" + line + ", " + i + ")", x.lineAt(line, i), due[line][i]);
            }
        }
    }

    private void partsOfNoLine() {
        expect.words("Promise 8: IndexOutOfBoundsException.");
        ProofLines x = Scene.withInputs(3);
        expect.noIndex("line 0 of none", () -> x.lineAt(0, 0));
        x.line();
        Scene.clause(x, 2, 3, 4, 5, 6, 7);
        x.equalLine(2, 2);
        int[] ends = {2, 8, 4};
        for (int line = 0; line < 3; line++) {
            int one = line;
            for (int i : new int[] {-1, ends[line], ends[line] + 1, SMALL, BIG}) {
                expect.noIndex("lineAt(" + line + ", " + i + ")", () -> x.lineAt(one, i));
            }
        }
        for (int line : new int[] {-1, 3, 24, SMALL, BIG}) {
            expect.noIndex("line " + line, () -> x.lineAt(line, 0));
        }
    }
}
