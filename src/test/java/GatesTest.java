/** Promises 1 (a new object), 2 (gate), 11 (holds), and 15 (count) as far as gates go. */
public final class GatesTest {
    private static final int BIG = Integer.MAX_VALUE;
    private static final int SMALL = Integer.MIN_VALUE;

    public static void main(String[] args) {
        Expect expect = new Expect("gates");
        newObject(expect);
        numbers(expect);
        wrongGates(expect);
        fullOfGates(expect);
        holdsByKind(expect);
        holdsInputsByNumber(expect);
        holdsManyInputs(expect);
        wrongHolds(expect);
        wrongCounts(expect);
        expect.end();
    }

    private static void newObject(Expect expect) {
        ProofLines x = new ProofLines();
        int[] due = {1, 0, 0, 0, 0};
        for (int what = 0; what < due.length; what++) {
            expect.same("new: count(" + what + ")", x.count(what), due[what]);
        }
        expect.same("new: FALSE", x.implied(-1, -1, -1, 0), 0);
        expect.same("new: FALSE holds", x.holds(0, -1L), false);
        expect.same("new: FALSE turned holds", x.holds(1, 0L), true);
        expect.same("new: read()", x.read(), 0);
        expect.same("new: check(1)", x.check(1), 0);
        expect.same("new: check(0)", x.check(0), 1);
        expect.noIndex("new: good(0)", () -> x.good(0));
        expect.noIndex("new: text(0)", () -> x.text(0));
    }

    private static void numbers(Expect expect) {
        ProofLines x = new ProofLines();
        expect.same("an and of FALSE", x.gate(Scene.AND, 0, 1), 1);
        expect.same("an input that does not mind a and b", x.gate(Scene.INPUT, SMALL, BIG), 2);
        expect.same("an either", x.gate(Scene.EITHER, 4, 5), 3);
        expect.same("an and of one literal twice", x.gate(Scene.AND, 7, 7), 4);
        expect.same("gates", x.count(0), 5);
        expect.same("inputs", x.count(1), 1);
    }

    private static void wrongGates(Expect expect) {
        ProofLines x = Scene.withInputs(2);
        String before = Scene.everything(x);
        for (int literal : new int[] {-1, -2, 6, 7, SMALL, BIG}) {
            for (int kind : new int[] {1, 2, 3, -1, SMALL, BIG}) {
                expect.noIndex("gate " + kind + " a " + literal, () -> x.gate(kind, literal, 2));
                expect.noIndex("gate " + kind + " b " + literal, () -> x.gate(kind, 2, literal));
            }
        }
        for (int kind : new int[] {-1, 3, 4, SMALL, BIG}) {
            expect.noArgument("kind " + kind, () -> x.gate(kind, 5, 0));
        }
        expect.same("wrong gates change", Scene.everything(x), before);
        expect.same("the next gate", x.gate(Scene.AND, 5, 5), 3);
    }

    private static void fullOfGates(Expect expect) {
        ProofLines x = Scene.withInputs(38);
        expect.same("gate 39", x.gate(Scene.EITHER, 76, 77), 39);
        expect.noRoom("input 40", () -> x.gate(Scene.INPUT, BIG, BIG));
        expect.noRoom("and 40", () -> x.gate(Scene.AND, 78, 79));
        expect.noIndex("no literal comes first", () -> x.gate(Scene.AND, 80, 0));
        expect.noArgument("no kind comes first", () -> x.gate(3, 0, 0));
        expect.same("full: gates", x.count(0), 40);
        expect.same("full: inputs", x.count(1), 38);
        expect.same("full: the last gate", x.holds(78, 0L), true);
    }

    private static void holdsByKind(Expect expect) {
        for (int signs = 0; signs < 4; signs++) {
            ProofLines x = Scene.withInputs(2);
            int turnA = signs & 1;
            int turnB = signs >> 1;
            x.gate(Scene.AND, 2 + turnA, 4 + turnB);
            x.gate(Scene.EITHER, 2 + turnA, 4 + turnB);
            for (int inputs = 0; inputs < 4; inputs++) {
                boolean a = ((inputs & 1) ^ turnA) == 1;
                boolean b = ((inputs >> 1) ^ turnB) == 1;
                String where = " of signs " + signs + " at " + inputs;
                expect.same("and" + where, x.holds(6, inputs), a && b);
                expect.same("and turned" + where, x.holds(7, inputs), !(a && b));
                expect.same("either" + where, x.holds(8, inputs), a != b);
                expect.same("either turned" + where, x.holds(9, inputs), a == b);
            }
        }
    }

    private static void holdsInputsByNumber(Expect expect) {
        ProofLines x = new ProofLines();
        x.gate(Scene.AND, 1, 1);
        x.gate(Scene.INPUT, 0, 0);
        x.gate(Scene.EITHER, 2, 4);
        x.gate(Scene.INPUT, 0, 0);
        expect.same("an and of truths", x.holds(2, 0L), true);
        expect.same("input 0", x.holds(4, 1L), true);
        expect.same("input 0 is not bit 1", x.holds(4, 2L), false);
        expect.same("input 1", x.holds(8, 2L), true);
        expect.same("input 1 is not bit 0", x.holds(8, 1L), false);
        expect.same("either of true and input 0", x.holds(6, 1L), false);
        Scene.clause(x);
        expect.same("lines do not matter", x.holds(6, 2L), true);
    }

    private static void holdsManyInputs(Expect expect) {
        ProofLines x = Scene.withInputs(39);
        for (int k = 0; k < 39; k++) {
            int literal = 2 * (k + 1);
            expect.same("input " + k + " alone", x.holds(literal, 1L << k), true);
            expect.same("all inputs but " + k, x.holds(literal, ~(1L << k)), false);
            expect.same("input " + k + " turned", x.holds(literal + 1, 1L << k), false);
        }
    }

    private static void wrongHolds(Expect expect) {
        ProofLines x = Scene.withInputs(2);
        for (int literal : new int[] {-1, -2, 6, 7, 80, SMALL, BIG}) {
            expect.noIndex("holds(" + literal + ")", () -> x.holds(literal, 3L));
        }
    }

    private static void wrongCounts(Expect expect) {
        ProofLines x = new ProofLines();
        for (int what : new int[] {-1, 5, 6, SMALL, BIG}) {
            expect.noIndex("count(" + what + ")", () -> x.count(what));
        }
    }
}
