/** The document's words on what methods throw: each sentence under its own words, over every method. */
public final class EdgesOfThrowsTest {
    private static final int BIG = Integer.MAX_VALUE;
    private static final int SMALL = Integer.MIN_VALUE;
    private static final int NONE = ProofLines.NONE;
    private static final int MOST_GATES = 40;

    private final Expect expect = new Expect("edges of throws");

    public static void main(String[] args) {
        EdgesOfThrowsTest test = new EdgesOfThrowsTest();
        test.expect.each(
                test::theOneNamedFirst, test::noSuchLiteral, test::noSuchGate, test::noSuchLine, test::noSuchPlace,
                test::asManyAsThereCanBe, test::othersNeverThrow, test::nothingChanges);
        test.expect.end();
    }

    /** Gates 0 .. 39, lines 0 .. 23 of which 0 is a clause of six, 1 an equality and the others clauses of none. */
    private static ProofLines full() {
        ProofLines x = Scene.withInputs(36);
        x.gate(Scene.AND, 2, 5);
        x.gate(Scene.EITHER, 4, 74);
        x.gate(Scene.AND, 77, 75);
        Scene.clause(x, 2, 3, 4, 5, 6, 7);
        x.equalLine(2, 2);
        for (int line = 2; line < 24; line++) {
            x.line();
        }
        return x;
    }

    private void theOneNamedFirst() {
        expect.words("Methods throw what their comments name, the one named first when several would do.");
        ProofLines x = Scene.withInputs(2);
        expect.noIndex("gate: no literal, no kind", () -> x.gate(3, 6, 0));
        expect.noIndex("gate: no second literal, no kind", () -> x.gate(-1, 0, -1));
        ProofLines y = full();
        expect.noIndex("gate: no literal, no kind, no room", () -> y.gate(3, 80, 0));
        expect.noIndex("gate: no literal, no room", () -> y.gate(Scene.AND, 0, 80));
        expect.noArgument("gate: no kind, no room", () -> y.gate(3, 0, 0));
        expect.noIndex("literal: no literal of an equality", () -> y.literal(1, 80));
        expect.noIndex("literal: no literal of a full clause", () -> y.literal(0, -1));
        expect.noIndex("literal: no line and no literal", () -> y.literal(24, 80));
        expect.noIndex("equalLine: no literal, no room", () -> y.equalLine(80, 0));
        expect.noIndex("equalLine: no second literal, no room", () -> y.equalLine(0, -1));
    }

    private void noSuchLiteral() {
        expect.words("IndexOutOfBoundsException: there is no such gate (of a literal), line or place.");
        for (int gates : new int[] {1, 3, 39}) {
            ProofLines x = Scene.withInputs(gates - 1);
            x.line();
            int last = 2 * gates - 1;
            for (int wrong : new int[] {-1, -2, last + 1, last + 2, 80, SMALL, SMALL + 1, BIG, BIG - 1}) {
                noSuchLiteral(x, wrong);
            }
            expect.same("check of the last", x.check(last), 1);
            expect.same("shorten for the last", x.shorten(last), NONE);
            expect.same("holds of the last", x.holds(last, 0L), true);
            expect.same("literal, the last", x.literal(0, last), true);
            expect.same("equalLine of the last", x.equalLine(last, last), 1);
            expect.same("implied by the last", x.implied(last, last, last, gates - 1), 0);
            expect.same("gate of the last", x.gate(Scene.AND, last, last), gates);
        }
    }

    private void noSuchLiteral(ProofLines x, int wrong) {
        expect.noIndex("and of " + wrong, () -> x.gate(Scene.AND, wrong, 0));
        expect.noIndex("and of 0 and " + wrong, () -> x.gate(Scene.AND, 0, wrong));
        expect.noIndex("either of " + wrong, () -> x.gate(Scene.EITHER, wrong, 0));
        expect.noIndex("either of 0 and " + wrong, () -> x.gate(Scene.EITHER, 0, wrong));
        expect.noIndex("literal " + wrong, () -> x.literal(0, wrong));
        expect.noIndex("equalLine of " + wrong, () -> x.equalLine(wrong, 0));
        expect.noIndex("equalLine of 0 and " + wrong, () -> x.equalLine(0, wrong));
        expect.noIndex("check of " + wrong, () -> x.check(wrong));
        expect.noIndex("shorten for " + wrong, () -> x.shorten(wrong));
        expect.noIndex("holds of " + wrong, () -> x.holds(wrong, -1L));
        if (wrong != NONE) {
            expect.noIndex("implied by " + wrong, () -> x.implied(wrong, NONE, NONE, 0));
            expect.noIndex("implied by none and " + wrong, () -> x.implied(NONE, wrong, NONE, 0));
            expect.noIndex("implied by none, none and " + wrong, () -> x.implied(NONE, NONE, wrong, 0));
        }
    }

    /** The same words: a gate that is itself asked for. */
    private void noSuchGate() {
        for (int gates : new int[] {1, 3, MOST_GATES}) {
            ProofLines x = Scene.withInputs(gates - 1);
            for (int wrong : new int[] {-1, -2, gates, gates + 1, 40, SMALL, BIG}) {
                expect.noIndex("implied, gate " + wrong, () -> x.implied(NONE, NONE, NONE, wrong));
                expect.noIndex("implied, in a conflict, gate " + wrong, () -> x.implied(0, 1, NONE, wrong));
            }
            expect.same("implied, the last gate", x.implied(2 * gates - 1, NONE, NONE, gates - 1), 0);
        }
    }

    /** The same words: a line. */
    private void noSuchLine() {
        for (int lines : new int[] {0, 1, 5, 24}) {
            ProofLines x = new ProofLines();
            for (int line = 0; line < lines; line++) {
                x.line();
            }
            for (int wrong : new int[] {-1, -2, lines, lines + 1, 24, 25, SMALL, BIG}) {
                expect.noIndex("literal of line " + wrong, () -> x.literal(wrong, 0));
                expect.noIndex("good, line " + wrong, () -> x.good(wrong));
                expect.noIndex("lineAt, line " + wrong, () -> x.lineAt(wrong, 0));
            }
            if (lines > 0) {
                expect.same("good, the last line of " + lines, x.good(lines - 1), lines > 1);
                expect.same("lineAt, the last line of " + lines, x.lineAt(lines - 1, 1), 0);
                expect.same("literal of the last line of " + lines, x.literal(lines - 1, 0), true);
            }
        }
    }

    /** The same words: a place in a line, in a text, or among the things that are counted. */
    private void noSuchPlace() {
        ProofLines x = Scene.withInputs(3);
        for (int size = 0; size <= 6; size++) {
            x.line();
            for (int k = 0; k < size; k++) {
                x.literal(size, 2 + k);
            }
            int line = size;
            for (int wrong : new int[] {-1, 2 + size, 3 + size, 8, 9, SMALL, BIG}) {
                expect.noIndex("lineAt(" + line + ", " + wrong + ")", () -> x.lineAt(line, wrong));
            }
            int length = x.count(4);
            for (int wrong : new int[] {-1, length, length + 1, SMALL, BIG}) {
                expect.noIndex("text(" + wrong + ") of " + length, () -> x.text(wrong));
            }
            expect.same("text, the last byte of " + length, x.text(length - 1), 10);
        }
        x.equalLine(2, 2);
        expect.noIndex("lineAt, the third of an equality", () -> x.lineAt(7, 4));
        for (int wrong : new int[] {-1, 5, 6, SMALL, BIG}) {
            expect.noIndex("count(" + wrong + ")", () -> x.count(wrong));
        }
    }

    private void asManyAsThereCanBe() {
        expect.words("UnsupportedOperationException: there are as many as there can be.");
        ProofLines x = full();
        expect.noRoom("an input", () -> x.gate(Scene.INPUT, 0, 0));
        expect.noRoom("an and", () -> x.gate(Scene.AND, 79, 0));
        expect.noRoom("an either", () -> x.gate(Scene.EITHER, 79, 0));
        expect.noRoom("a clause", () -> x.line());
        expect.noRoom("an equality", () -> x.equalLine(79, 0));
        expect.noRoom("a literal", () -> x.literal(0, 8));
        expect.same("but not of another line", x.literal(23, 8), true);
        ProofLines y = Scene.withInputs(38);
        expect.same("one less: a gate", y.gate(Scene.AND, 77, 76), 39);
        Scene.read(y, "c\n".repeat(22) + "c +1 +2 +3 +4 +5\n");
        expect.same("one less: a literal", y.literal(22, 13), true);
        expect.same("one less: a line", y.line(), 23);
        y.clear();
        Scene.read(y, "c\n".repeat(23));
        expect.same("one less: an equality", y.equalLine(79, 79), 23);
    }

    /** "Methods throw what their comments name": these name nothing. */
    private void othersNeverThrow() {
        expect.words("Methods throw what their comments name");
        ProofLines x = new ProofLines();
        for (int u : new int[] {SMALL, -1, 0, 255, 256, BIG}) {
            expect.same("unit(" + u + ")", Expect.outcome(() -> x.unit(u)), true);
        }
        expect.same("read() with a fault", Expect.outcome(() -> x.read()), -1);
        expect.same("read() of nothing", Expect.outcome(() -> x.read()), 0);
        x.clear();
        expect.same("clear() of nothing", x.count(2), 0);
    }

    private void nothingChanges() {
        expect.words("A call that throws changes nothing.");
        ProofLines x = full();
        ProofLines same = full();
        for (char u : "\nx".toCharArray()) {
            x.unit(u);
            same.unit(u);
        }
        expect.noIndex("gate", () -> x.gate(Scene.AND, 80, 0));
        expect.noArgument("gate", () -> x.gate(3, 0, 0));
        expect.noRoom("gate", () -> x.gate(Scene.INPUT, 0, 0));
        expect.noRoom("line", () -> x.line());
        expect.noIndex("literal", () -> x.literal(2, 80));
        expect.noArgument("literal", () -> x.literal(1, 4));
        expect.noRoom("literal", () -> x.literal(0, 8));
        expect.noIndex("equalLine", () -> x.equalLine(0, 80));
        expect.noRoom("equalLine", () -> x.equalLine(0, 0));
        expect.noIndex("check", () -> x.check(80));
        expect.noIndex("good", () -> x.good(24));
        expect.noIndex("lineAt", () -> x.lineAt(0, 8));
        expect.noIndex("implied", () -> x.implied(2, 4, 80, 1));
        expect.noIndex("shorten", () -> x.shorten(-1));
        expect.noIndex("holds", () -> x.holds(80, 0L));
        expect.noIndex("text", () -> x.text(-1));
        expect.noIndex("count", () -> x.count(5));
        expect.same("all that can be seen", Scene.everything(x), Scene.everything(same));
        expect.same("what is on the tape", x.read(), same.read());
        x.clear();
        same.clear();
        for (int gate = 0; gate < MOST_GATES; gate++) {
            int due = same.implied(74, 79, NONE, gate);
            expect.same("what comes for gate " + gate, x.implied(74, 79, NONE, gate), due);
        }
        withRoomNothingChanges();
    }

    /** Where there is room, a refused call could have taken some of it. */
    private void withRoomNothingChanges() {
        ProofLines x = Scene.withInputs(2);
        Scene.clause(x, 2);
        String before = Scene.everything(x);
        expect.noIndex("gate", () -> x.gate(Scene.EITHER, 0, 6));
        expect.noArgument("gate", () -> x.gate(4, 0, 5));
        expect.noIndex("equalLine", () -> x.equalLine(5, 6));
        expect.noIndex("literal", () -> x.literal(0, 6));
        expect.noIndex("literal", () -> x.literal(1, 4));
        expect.noIndex("shorten", () -> x.shorten(6));
        expect.same("all that can be seen", Scene.everything(x), before);
        expect.same("the next gate", x.gate(Scene.INPUT, 0, 0), 3);
        expect.same("the next input's bit", x.holds(6, 4L), true);
        expect.same("the next line", x.line(), 1);
        expect.same("its literals", x.lineAt(1, 1), 0);
        expect.same("the first line's next literal", x.literal(0, 3), true);
        expect.same("comes behind the first", x.lineAt(0, 3), 3);
    }
}
