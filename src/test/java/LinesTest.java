/** Promises 3 (line), 4 (literal), 5 (equalLine), 8 (lineAt) and 16 (clear). */
public final class LinesTest {
    private static final int BIG = Integer.MAX_VALUE;
    private static final int SMALL = Integer.MIN_VALUE;

    public static void main(String[] args) {
        Expect expect = new Expect("lines");
        clauses(expect);
        equalities(expect);
        fullClause(expect);
        wrongLiterals(expect);
        wrongEqualities(expect);
        fullOfLines(expect);
        wrongPlaces(expect);
        cleared(expect);
        expect.end();
    }

    private static void clauses(Expect expect) {
        ProofLines x = Scene.withInputs(3);
        expect.same("line()", x.line(), 0);
        expect.same("a second line()", x.line(), 1);
        expect.same("lines", x.count(2), 2);
        expect.same("a literal", x.literal(0, 7), true);
        expect.same("it turned", x.literal(0, 6), true);
        expect.same("FALSE", x.literal(0, 0), true);
        expect.same("it again", x.literal(0, 7), false);
        expect.same("in the other line", x.literal(1, 7), true);
        expect.same("kind and literals, as they came", Scene.lines(x), "[0 3 7 6 0][0 1 7]");
    }

    private static void equalities(Expect expect) {
        ProofLines x = Scene.withInputs(1);
        x.line();
        expect.same("equalLine(3, 0)", x.equalLine(3, 0), 1);
        expect.same("of one literal", x.equalLine(2, 2), 2);
        expect.same("of one turned", x.equalLine(2, 3), 3);
        expect.same("kind and literals of equalities", Scene.lines(x), "[0 0][1 2 3 0][1 2 2 2][1 2 2 3]");
    }

    private static void fullClause(Expect expect) {
        ProofLines x = Scene.withInputs(7);
        Scene.clause(x, 2, 4, 6, 8, 10, 13);
        String before = Scene.everything(x);
        expect.noRoom("a seventh literal", () -> x.literal(0, 12));
        expect.noIndex("no literal comes first", () -> x.literal(0, 16));
        for (int literal : new int[] {2, 4, 6, 8, 10, 13}) {
            expect.same("one of the six, " + literal, x.literal(0, literal), false);
        }
        expect.same("a full clause changes", Scene.everything(x), before);
    }

    private static void wrongLiterals(Expect expect) {
        ProofLines x = Scene.withInputs(2);
        x.line();
        x.equalLine(2, 4);
        String before = Scene.everything(x);
        for (int line : new int[] {-1, 2, 24, SMALL, BIG}) {
            expect.noIndex("line " + line, () -> x.literal(line, 2));
        }
        for (int literal : new int[] {-1, -2, 6, 7, 80, SMALL, BIG}) {
            expect.noIndex("literal " + literal, () -> x.literal(0, literal));
            expect.noIndex("of an equality, literal " + literal, () -> x.literal(1, literal));
        }
        expect.noArgument("an equality", () -> x.literal(1, 3));
        expect.noArgument("an equality that has it", () -> x.literal(1, 2));
        expect.same("wrong literals change", Scene.everything(x), before);
    }

    private static void wrongEqualities(Expect expect) {
        ProofLines x = Scene.withInputs(2);
        for (int literal : new int[] {-1, -2, 6, 7, 80, SMALL, BIG}) {
            expect.noIndex("a " + literal, () -> x.equalLine(literal, 2));
            expect.noIndex("b " + literal, () -> x.equalLine(2, literal));
        }
        expect.same("wrong equalities change", x.count(2), 0);
    }

    private static void fullOfLines(Expect expect) {
        ProofLines x = Scene.withInputs(1);
        for (int line = 0; line < 24; line++) {
            expect.same("a line", line % 2 == 0 ? x.line() : x.equalLine(2, 3), line);
        }
        String before = Scene.everything(x);
        expect.noRoom("line() 24", () -> x.line());
        expect.noRoom("equalLine() 24", () -> x.equalLine(2, 3));
        expect.noIndex("no literal comes first", () -> x.equalLine(2, 4));
        expect.same("a full proof changes", Scene.everything(x), before);
        expect.same("a literal of a line", x.literal(22, 2), true);
    }

    private static void wrongPlaces(Expect expect) {
        ProofLines x = Scene.withInputs(6);
        Scene.clause(x, 2, 4, 6, 8, 10, 12);
        x.equalLine(3, 5);
        x.line();
        int[] sizes = {6, 2, 0};
        for (int line = 0; line < 3; line++) {
            int at = line;
            int end = 2 + sizes[line];
            expect.same("how many in line " + line, x.lineAt(line, 1), sizes[line]);
            for (int i : new int[] {-1, end, end + 1, SMALL, BIG}) {
                expect.noIndex("lineAt(" + at + ", " + i + ")", () -> x.lineAt(at, i));
            }
        }
        for (int line : new int[] {-1, 3, 24, SMALL, BIG}) {
            expect.noIndex("lineAt(" + line + ", 0)", () -> x.lineAt(line, 0));
        }
    }

    private static void cleared(Expect expect) {
        ProofLines x = Scene.withInputs(2);
        x.gate(Scene.AND, 2, 4);
        Scene.clause(x);
        x.equalLine(2, 4);
        x.unit('c');
        x.clear();
        expect.same("cleared", Scene.everything(x),
                "4 gates, 2 inputs, 0 lines , 1 bytes on the tape, 0 bytes of text ");
        expect.noIndex("a line that was", () -> x.lineAt(0, 0));
        expect.same("no line tells anything", x.implied(2, -1, -1, 2), 2);
        expect.same("gates stay", x.implied(6, -1, -1, 2), 1);
        expect.same("the first line again", x.line(), 0);
        expect.same("it is empty", Scene.lines(x), "[0 0]");
        x.clear();
        x.clear();
        expect.same("the first equality again", x.equalLine(5, 5), 0);
        expect.same("the tape stays", x.read(), 2);
    }
}
