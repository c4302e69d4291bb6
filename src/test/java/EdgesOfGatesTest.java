/** The document's "1 GATES AND LITERALS": each sentence that names a boundary case, under its own words. */
public final class EdgesOfGatesTest {
    private static final int BIG = Integer.MAX_VALUE;
    private static final int SMALL = Integer.MIN_VALUE;
    private static final int NONE = ProofLines.NONE;

    private final Expect expect = new Expect("edges of gates");

    public static void main(String[] args) {
        EdgesOfGatesTest test = new EdgesOfGatesTest();
        test.expect.each(
                test::gatesHaveNumbers, test::zeroIsFalse, test::othersAreOfThreeKinds,
                test::literalsAreTwiceTheNumbers, test::linesHaveNumbers, test::clausesHaveUpToSix,
                test::equalitiesHaveTwo);
        test.expect.end();
    }

    private void gatesHaveNumbers() {
        expect.words("GATES have numbers 0 .. 39");
        ProofLines x = new ProofLines();
        for (int gate = 1; gate <= 39; gate++) {
            expect.same("gate after " + (gate - 1), x.gate(gate % 3, 2 * gate - 2, 2 * gate - 1), gate);
        }
        expect.same("40 gates", x.count(0), 40);
        expect.noRoom("a gate after 39", () -> x.gate(Scene.INPUT, 0, 0));
        expect.same("gate 39 is there", x.implied(79, NONE, NONE, 39), 0);
        expect.same("gate 0 is there", x.implied(NONE, NONE, NONE, 0), 0);
        expect.noIndex("gate 40", () -> x.implied(NONE, NONE, NONE, 40));
        expect.noIndex("gate -1", () -> x.implied(NONE, NONE, NONE, -1));
    }

    private void zeroIsFalse() {
        expect.words("0 is FALSE");
        ProofLines x = new ProofLines();
        expect.same("gate 0 with no bits", x.holds(0, 0L), false);
        expect.same("gate 0 with all bits", x.holds(0, -1L), false);
        expect.same("gate 0 turned", x.holds(1, -1L), true);
        expect.same("it is no input", x.count(1), 0);
        expect.same("the first input is another one", x.gate(Scene.INPUT, 0, 0), 1);
        expect.same("bit 0 is of that one", x.holds(2, 1L), true);
        expect.same("and not of FALSE", x.holds(0, 1L), false);
        expect.same("FALSE by steps", x.implied(NONE, NONE, NONE, 0), 0);
    }

    private void othersAreOfThreeKinds() {
        expect.words("others are INPUTS (kind 0), ANDS (1) or EITHERS (2: just one of both) of two literals");
        ProofLines x = new ProofLines();
        expect.noArgument("kind -1", () -> x.gate(-1, 0, 0));
        expect.noArgument("kind 3", () -> x.gate(3, 0, 0));
        expect.noArgument("kind 256", () -> x.gate(256, 0, 0));
        expect.noArgument("the least kind", () -> x.gate(SMALL, 0, 0));
        expect.noArgument("the greatest kind", () -> x.gate(BIG, 0, 0));
        expect.same("kind 0", x.gate(0, 0, 0), 1);
        expect.same("is an input", x.count(1), 1);
        expect.same("kind 1", x.gate(1, 1, 1), 2);
        expect.same("is no input", x.count(1), 1);
        expect.same("an and of both true", x.holds(4, 0L), true);
        expect.same("kind 2", x.gate(2, 1, 1), 3);
        expect.same("is no input either", x.count(1), 1);
        expect.same("an either of both true is not just one", x.holds(6, 0L), false);
        x.gate(2, 0, 0);
        expect.same("an either of none", x.holds(8, 0L), false);
        x.gate(2, 0, 1);
        expect.same("an either of just the second", x.holds(10, 0L), true);
        x.gate(2, 1, 0);
        expect.same("an either of just the first", x.holds(12, 0L), true);
        x.gate(1, 0, 1);
        expect.same("an and of just the second", x.holds(14, 0L), false);
        x.gate(1, 1, 0);
        expect.same("an and of just the first", x.holds(16, 0L), false);
    }

    private void literalsAreTwiceTheNumbers() {
        expect.words("A LITERAL is 2 times a gate's number, and 1 more if it is TURNED.");
        for (int inputs : new int[] {0, 1, 38, 39}) {
            ProofLines x = Scene.withInputs(inputs);
            int end = 2 * (inputs + 1);
            for (int literal = 0; literal < end; literal++) {
                int gate = literal / 2;
                long itsBit = gate == 0 ? 0L : 1L << (gate - 1);
                expect.same(literal + " of " + inputs + " inputs", x.holds(literal, itsBit),
                        gate > 0 == (literal % 2 == 0));
            }
            for (int literal : new int[] {-1, -2, end, end + 1, SMALL, SMALL + 1, SMALL + 2, BIG, BIG - 1}) {
                expect.noIndex(literal + " of " + inputs + " inputs", () -> x.holds(literal, 0L));
            }
        }
    }

    private void linesHaveNumbers() {
        expect.words("LINES 0 .. 23");
        ProofLines x = Scene.withInputs(2);
        for (int line = 0; line <= 23; line++) {
            expect.same("line " + line, line % 2 == 1 ? x.line() : x.equalLine(2, 2), line);
        }
        expect.noRoom("a clause after line 23", () -> x.line());
        expect.noRoom("an equality after line 23", () -> x.equalLine(2, 2));
        expect.same("line 0 is there", x.lineAt(0, 0), 1);
        expect.same("line 23 is there", x.literal(23, 5), true);
        expect.same("with its literal", x.lineAt(23, 2), 5);
        expect.noIndex("line 24", () -> x.lineAt(24, 0));
        expect.noIndex("line -1", () -> x.lineAt(-1, 0));
    }

    private void clausesHaveUpToSix() {
        expect.words("CLAUSES, of up to 6 literals (at least one of which should be true)");
        ProofLines x = Scene.withInputs(7);
        x.line();
        expect.same("of none", x.lineAt(0, 1), 0);
        expect.same("none of which can be true", x.implied(NONE, NONE, NONE, 0), 3);
        x.clear();
        x.line();
        for (int size = 1; size <= 6; size++) {
            int literal = 2 * size + 1;
            expect.same("literal " + size, x.literal(0, literal), true);
            expect.same("of " + size, x.lineAt(0, 1), size);
        }
        expect.noRoom("literal 7", () -> x.literal(0, 15));
        expect.same("of 6 still", x.lineAt(0, 1), 6);
        expect.same("of 6 in a text", Scene.read(x, "c +1 +2 +3 +4 +5 +6"), 2);
        expect.same("of 7 in a text", Scene.read(x, "c +1 +2 +3 +4 +5 +6 +7"), -1 - 20);
    }

    private void equalitiesHaveTwo() {
        expect.words("EQUALITIES of two literals (that should be the same)");
        ProofLines x = Scene.withInputs(2);
        x.equalLine(2, 5);
        expect.same("how many", x.lineAt(0, 1), 2);
        x.equalLine(2, 2);
        expect.same("how many of one twice", x.lineAt(1, 1), 2);
        expect.noArgument("a third one", () -> x.literal(0, 4));
        expect.noArgument("one that is in it", () -> x.literal(1, 2));
        expect.same("of one in a text", Scene.read(x, "= +1"), -1 - 4);
        expect.same("of three in a text", Scene.read(x, "= +1 +2 +1"), -1 - 8);
        expect.same("of two in a text", Scene.read(x, "= -2 -2"), 3);
        expect.same("all of them", Scene.lines(x), "[1 2 2 5][1 2 2 2][1 2 5 5]");
    }
}
