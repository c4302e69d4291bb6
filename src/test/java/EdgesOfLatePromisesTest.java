/** Promises 9 to 16: each sentence that names a boundary case, under its own words. */
public final class EdgesOfLatePromisesTest {
    private static final int BIG = Integer.MAX_VALUE;
    private static final int SMALL = Integer.MIN_VALUE;
    private static final int NONE = ProofLines.NONE;

    private final Expect expect = new Expect("edges of promises 9 to 16");

    public static void main(String[] args) {
        EdgesOfLatePromisesTest test = new EdgesOfLatePromisesTest();
        test.expect.each(
                test::impliedGate, test::impliedByAllLines, test::impliedOfNothing, test::shortened,
                test::shortenedFromTheLast, test::shortenedAsTheOthersAreThen, test::shortenedWithAllLinesGood,
                test::shortenedMovesUp, test::notShortened, test::shortenedForNoClaim, test::holdsByBits,
                test::holdsOfNoLiteral, test::bytesOfTheText, test::noByteOfTheText, test::lowestEightBits,
                test::roomOnTheTape, test::tapeIsEmptyThen, test::linesComeBehind, test::noneOfAFaultComes,
                test::notThereTwice, test::counted, test::countedWhenFull, test::countedNothing, test::cleared);
        test.expect.end();
    }

    private void impliedGate() {
        expect.words("Promise 9: What a gate must be when some literals (up to three; NONE: none) are assumed, with all"
                + " lines: 0 or 1; 2 it is not told; 3 there is a conflict.");
        ProofLines x = Scene.withInputs(3);
        x.gate(Scene.AND, 2, 4);
        x.gate(Scene.AND, 8, 6);
        expect.same("none: FALSE", x.implied(NONE, NONE, NONE, 0), 0);
        expect.same("none: an input", x.implied(NONE, NONE, NONE, 1), 2);
        expect.same("none: an and", x.implied(NONE, NONE, NONE, 5), 2);
        expect.same("the first alone", x.implied(3, NONE, NONE, 5), 0);
        expect.same("the second alone", x.implied(NONE, 3, NONE, 5), 0);
        expect.same("the third alone", x.implied(NONE, NONE, 3, 5), 0);
        expect.same("two", x.implied(2, 4, NONE, 5), 2);
        expect.same("three", x.implied(2, 4, 6, 5), 1);
        expect.same("one three times", x.implied(7, 7, 7, 3), 0);
        expect.same("one and it turned", x.implied(2, NONE, 3, 0), 3);
        expect.same("a conflict, though the gate is told", x.implied(10, 3, 6, 3), 3);
        expect.same("a conflict, though the gate is not told", x.implied(8, 5, NONE, 3), 3);
        expect.same("FALSE turned", x.implied(1, 1, NONE, 0), 0);
        expect.same("FALSE", x.implied(NONE, 0, NONE, 0), 3);
        expect.same("nothing of it stays", x.implied(NONE, NONE, NONE, 1), 2);
    }

    /** The same words of the document: "with all lines", good or not, the last one too. */
    private void impliedByAllLines() {
        ProofLines x = Scene.withInputs(39);
        for (int line = 0; line < 24; line++) {
            Scene.clause(x, 2 * (16 + line) + 1);
        }
        expect.same("by the first line", x.implied(NONE, NONE, NONE, 16), 0);
        expect.same("by the last line", x.implied(NONE, NONE, NONE, 39), 0);
        expect.same("by no line", x.implied(NONE, NONE, NONE, 15), 2);
        expect.same("against the last line", x.implied(78, NONE, NONE, 15), 3);
        x.clear();
        expect.same("by no lines", x.implied(NONE, NONE, NONE, 39), 2);
        x.line();
        expect.same("by a clause of none", x.implied(NONE, NONE, NONE, 0), 3);
    }

    private void impliedOfNothing() {
        expect.words("Promise 9: IndexOutOfBoundsException.");
        ProofLines x = Scene.withInputs(2);
        for (int wrong : new int[] {-2, -3, 6, 7, 80, SMALL, BIG}) {
            expect.noIndex("a " + wrong, () -> x.implied(wrong, 2, 2, 0));
            expect.noIndex("b " + wrong, () -> x.implied(2, wrong, 2, 0));
            expect.noIndex("c " + wrong, () -> x.implied(2, 2, wrong, 0));
            expect.noIndex("c behind a conflict " + wrong, () -> x.implied(2, 3, wrong, 0));
        }
        for (int gate : new int[] {-1, -2, 3, 4, 40, SMALL, BIG}) {
            expect.noIndex("gate " + gate, () -> x.implied(NONE, NONE, NONE, gate));
        }
        expect.same("the greatest of all", x.implied(5, 5, 5, 2), 0);
    }

    /** Gates 1 and 2 are inputs, 3 and 4 eithers of each of them with itself, which is false, but not by unit steps. */
    private static ProofLines withHiddenFalse() {
        ProofLines x = Scene.withInputs(2);
        x.gate(Scene.EITHER, 2, 2);
        x.gate(Scene.EITHER, 4, 4);
        x.gate(Scene.EITHER, 6, 9);
        return x;
    }

    private void shortened() {
        expect.words("Promise 10: If check() of the claim is 0: each line, from the last one to the first one, is left"
                + " out if check() is 0 without it (as the others are then); the others move up: how many are left.");
        ProofLines x = withHiddenFalse();
        expect.same("no lines", x.shorten(1), 0);
        expect.same("the claim needs a line", x.check(7), 1);
        Scene.read(x, "c -3 -1\n");
        expect.same("one line that is needed", x.shorten(7), 1);
        expect.same("it stays", Scene.text(x), "c -3 -1\n");
        expect.same("one line that is not needed", x.shorten(1), 0);
        expect.same("it is left out", Scene.text(x), "");
        Scene.read(x, "= +1 +1\n".repeat(24));
        expect.same("all of 24", x.shorten(1), 0);
        expect.same("lines", x.count(2), 0);
        Scene.read(x, "c -3 -1\n" + "= +1 +1\n".repeat(23));
        expect.same("all but the first of 24", x.shorten(7), 1);
        x.clear();
        Scene.read(x, "c +1 -1\n".repeat(23) + "c -3 -1\n");
        expect.same("all but the last of 24", x.shorten(7), 1);
        expect.same("the last is the first then", Scene.text(x), "c -3 -1\n");
        expect.same("there is room again", x.line(), 1);
    }

    /** "from the last one to the first one": of two, either of which would do, the first stays. */
    private void shortenedFromTheLast() {
        expect.words("each line, from the last one to the first one, is left out");
        ProofLines x = withHiddenFalse();
        Scene.read(x, "c -3 -1\nc -3 +1\n");
        expect.same("how many", x.shorten(7), 1);
        expect.same("the first stays", Scene.text(x), "c -3 -1\n");
        x.clear();
        Scene.read(x, "c -3 +1\nc -3 -1\n");
        expect.same("how many, the other way round", x.shorten(7), 1);
        expect.same("the first stays, the other way round", Scene.text(x), "c -3 +1\n");
        x.clear();
        Scene.read(x, "c -3 -1\nc -3\n");
        x.shorten(7);
        expect.same("the claim itself, as the last line, goes", Scene.text(x), "c -3 -1\n");
    }

    private void shortenedAsTheOthersAreThen() {
        expect.words("is left out if check() is 0 without it (as the others are then)");
        ProofLines x = withHiddenFalse();
        Scene.read(x, "c -3 -1\n".repeat(24));
        expect.same("of 24 that are alike one stays", x.shorten(7), 1);
        expect.same("the claim stands", x.check(7), 0);
        x.clear();
        Scene.read(x, "c -3 -1\nc -3\n= +3 +0\nc -3 +2\n");
        expect.same("a line that only those need that are left out goes too", x.shorten(1), 0);
    }

    /** "if check() is 0 without it": the other lines must be good, not the claim alone stand. */
    private void shortenedWithAllLinesGood() {
        expect.words("is left out if check() is 0 without it");
        ProofLines x = withHiddenFalse();
        Scene.read(x, "c -3 -1\nc -4 -2\nc -3\n");
        expect.same("the proof stands", x.check(10), 0);
        expect.same("the first line is for the third alone", x.shorten(10), 3);
        expect.same("so it stays", Scene.text(x), "c -3 -1\nc -4 -2\nc -3\n");
        x.clear();
        Scene.read(x, "c -3 -1\nc -3\nc -4 -2\n");
        expect.same("the first line is for the second alone", x.shorten(10), 3);
        expect.same("for another claim", x.shorten(9), 1);
        expect.same("another line stays", Scene.text(x), "c -4 -2\n");
    }

    private void shortenedMovesUp() {
        expect.words("the others move up: how many are left.");
        ProofLines x = withHiddenFalse();
        Scene.read(x, "= +1 +1\nc -3 -1\nc +1 +2 -2 -1\nc -4 -2\nc -0\nc -3 -4\nc -3\n= +2 +2\n");
        expect.same("how many are left", x.shorten(10), 3);
        expect.same("lines", Scene.lines(x), "[0 2 7 3][0 2 9 5][0 1 7]");
        expect.same("so many", x.count(2), 3);
        expect.noIndex("the line behind them", () -> x.lineAt(3, 0));
        expect.same("once more", x.shorten(10), 3);
        expect.same("a new line behind them", x.line(), 3);
        expect.same("it is empty", x.lineAt(3, 1), 0);
        x.clear();
        Scene.read(x, "c +1 -1 +2 -2\nc -3 -1\nc -4 -2\n= +3 +0\n");
        expect.same("how many with an equality", x.shorten(10), 3);
        expect.same("it comes where a clause was", Scene.lines(x), "[0 2 7 3][0 2 9 5][1 2 6 0]");
    }

    private void notShortened() {
        expect.words("Promise 10: NONE, if it is not 0 (then nothing changes).");
        ProofLines x = withHiddenFalse();
        expect.same("no lines, no claim", x.shorten(0), NONE);
        Scene.read(x, "= +1 +1\nc -3 -1\n");
        String before = Scene.everything(x);
        expect.same("good lines, no claim", x.shorten(2), NONE);
        expect.same("nothing changes", Scene.everything(x), before);
        Scene.read(x, "c\n");
        String with = Scene.everything(x);
        expect.same("the last line is bad", x.shorten(1), NONE);
        expect.same("nothing changes then", Scene.everything(x), with);
        x.clear();
        Scene.read(x, "c +1\n= +1 +1\nc +1 -1\n");
        expect.same("the first line is bad", x.shorten(1), NONE);
        expect.same("the claim follows from the bad line", x.shorten(2), NONE);
        expect.same("nothing changes neither", Scene.text(x), "c +1\n= +1 +1\nc +1 -1\n");
        expect.same("NONE", NONE, -1);
    }

    private void shortenedForNoClaim() {
        expect.words("Promise 10: IndexOutOfBoundsException.");
        ProofLines x = Scene.withInputs(2);
        x.equalLine(2, 2);
        for (int claim : new int[] {-1, -2, 6, 7, 80, SMALL, BIG}) {
            expect.noIndex("claim " + claim, () -> x.shorten(claim));
        }
        x.line();
        expect.noIndex("no claim when a line is bad", () -> x.shorten(6));
        expect.same("lines stay", Scene.lines(x), "[1 2 2 2][0 0]");
    }

    private void holdsByBits() {
        expect.words("Promise 11: Whether a literal is true when the k-th input (by numbers, from 0) is bit k of a"
                + " number.");
        ProofLines x = Scene.withInputs(39);
        for (int k : new int[] {0, 1, 7, 8, 30, 31, 32, 33, 37, 38}) {
            int literal = 2 * (k + 1);
            expect.same("bit " + k + " alone", x.holds(literal, 1L << k), true);
            expect.same("all but bit " + k, x.holds(literal, ~(1L << k)), false);
            expect.same("bit " + k + ", turned", x.holds(literal + 1, 1L << k), false);
            expect.same("bit " + k + " of " + Long.MIN_VALUE, x.holds(literal, Long.MIN_VALUE), false);
            expect.same("bit " + k + " of " + Long.MAX_VALUE, x.holds(literal, Long.MAX_VALUE), true);
            expect.same("bit " + k + " of -1", x.holds(literal, -1L), true);
            expect.same("bit " + k + " of 0", x.holds(literal, 0L), false);
            expect.same("bits behind the last input", x.holds(literal, -1L << 39), false);
        }
        ProofLines y = new ProofLines();
        y.gate(Scene.AND, 1, 1);
        y.gate(Scene.INPUT, 0, 0);
        y.gate(Scene.EITHER, 2, 4);
        y.gate(Scene.INPUT, 0, 0);
        expect.same("gate 2 is input 0", y.holds(4, 1L), true);
        expect.same("gate 4 is input 1", y.holds(8, 2L), true);
        expect.same("gate 4 is not bit 3", y.holds(8, 8L), false);
        y.line();
        expect.same("a bad line does not matter", y.holds(6, 1L), false);
        expect.same("FALSE", y.holds(0, -1L), false);
        expect.same("FALSE turned", y.holds(1, 0L), true);
        chainHolds();
    }

    /** The same words of the document, for a literal that hangs on all the others. */
    private void chainHolds() {
        ProofLines x = Scene.withInputs(20);
        for (int gate = 21; gate <= 39; gate++) {
            x.gate(Scene.EITHER, gate == 21 ? 2 : 2 * gate - 2, 2 * (gate - 19));
        }
        expect.same("parity of 20 bits", x.holds(78, (1L << 20) - 1), false);
        expect.same("of 19 bits", x.holds(78, (1L << 20) - 2), true);
        expect.same("of the last bit alone", x.holds(78, 1L << 19), true);
        expect.same("of none, after that", x.holds(78, 0L), false);
    }

    private void holdsOfNoLiteral() {
        expect.words("Promise 11: IndexOutOfBoundsException.");
        for (int inputs : new int[] {0, 2, 39}) {
            ProofLines x = Scene.withInputs(inputs);
            int end = 2 * inputs + 2;
            for (int literal : new int[] {-1, -2, end, end + 1, 80, SMALL, BIG}) {
                expect.noIndex("literal " + literal + " of " + inputs + " inputs", () -> x.holds(literal, -1L));
            }
            expect.same("the greatest of " + inputs + " inputs", x.holds(end - 1, 0L), true);
        }
    }

    private void bytesOfTheText() {
        expect.words("Promise 12: Byte i of all lines as a text.");
        ProofLines x = Scene.withInputs(39);
        x.line();
        expect.same("byte 0", x.text(0), 99);
        expect.same("byte 1, the last", x.text(1), 10);
        x.equalLine(21, 78);
        byte[] due = {99, 10, 61, 32, 45, 49, 48, 32, 43, 51, 57, 10};
        for (int i = 0; i < due.length; i++) {
            expect.same("byte " + i, x.text(i), (int) due[i]);
        }
        x.clear();
        for (int line = 0; line < 24; line++) {
            Scene.clause(x, 20, 21, 22, 23, 24, 77 + line % 3);
        }
        expect.same("the longest text", x.count(4), 24 * 26);
        expect.same("the first byte of the last line", x.text(23 * 26), 99);
        expect.same("the last digit", x.text(24 * 26 - 2), (int) '9');
        expect.same("the last byte", x.text(24 * 26 - 1), 10);
        expect.noIndex("behind it", () -> x.text(24 * 26));
    }

    private void noByteOfTheText() {
        expect.words("Promise 12: IndexOutOfBoundsException.");
        ProofLines x = Scene.withInputs(1);
        for (int i : new int[] {-1, 0, 1, SMALL, BIG}) {
            expect.noIndex("byte " + i + " of none", () -> x.text(i));
        }
        x.equalLine(2, 3);
        expect.same("the last byte", x.text(7), 10);
        for (int i : new int[] {-1, 8, 9, 1000, SMALL, BIG}) {
            expect.noIndex("byte " + i + " of 8", () -> x.text(i));
        }
        x.clear();
        expect.noIndex("byte 0 after clear()", () -> x.text(0));
    }

    private void lowestEightBits() {
        expect.words("Promise 13: One byte more on the tape (its lowest eight bits)");
        for (int high : new int[] {0, 256, 512, 65536, -256, -65536, SMALL, BIG - 255}) {
            ProofLines x = Scene.withInputs(1);
            for (char unit : "c +1".toCharArray()) {
                expect.same("unit", x.unit(high + unit), true);
            }
            expect.same("bytes with " + high, x.count(3), 4);
            expect.same("read with " + high, x.read(), 1);
            expect.same("line with " + high, Scene.text(x), "c +1\n");
        }
        ProofLines y = new ProofLines();
        for (int u : new int[] {-1, 255, 127, 128, ' ' + 128, ' ' - 128, '\n' + 128}) {
            y.unit('c');
            y.unit(u);
            expect.same("no blank and no line end, " + u, y.read(), -1 - 1);
        }
    }

    /** An object is not used for so many calls, and what they answer is free: the words are kept all the same. */
    private void roomOnTheTape() {
        expect.words("whether there was room (for 1000).");
        ProofLines x = new ProofLines();
        for (int i = 0; i < 999; i++) {
            x.unit(' ');
        }
        expect.same("byte 999 of 1000", x.count(3), 999);
        expect.same("room for the last", x.unit('x'), true);
        expect.same("bytes", x.count(3), 1000);
        expect.same("no room", x.unit('c'), false);
        expect.same("and still none", x.unit('c'), false);
        expect.same("bytes as before", x.count(3), 1000);
        expect.same("the last one counts", x.read(), -1 - 999);
        expect.same("room again", x.unit('c'), true);
        expect.same("one byte", x.count(3), 1);
        ProofLines y = new ProofLines();
        for (int i = 0; i < 500; i++) {
            expect.same("room for byte " + i, y.unit('x'), true);
        }
        expect.same("500 bytes", y.count(3), 500);
    }

    private void tapeIsEmptyThen() {
        expect.words("Promise 14: The tape (which is empty then) is a text");
        ProofLines x = Scene.withInputs(2);
        expect.same("a tape that is empty", x.read(), 0);
        expect.same("is empty then", x.count(3), 0);
        expect.same("a text", Scene.read(x, "c +1\nc +2"), 2);
        expect.same("the tape after it", x.count(3), 0);
        expect.same("nothing is read again", x.read(), 2);
        expect.same("a fault", Scene.read(x, "c +1\nx and more"), -1 - 5);
        expect.same("the tape after a fault", x.count(3), 0);
        expect.same("nothing of it is read", x.read(), 2);
        expect.same("a shorter text", Scene.read(x, "c"), 3);
        expect.same("has nothing of a longer one", Scene.text(x), "c +1\nc +2\nc\n");
        x.clear();
        Scene.read(x, "c+1+2");
        expect.same("one that ends before a sign of the longer one", Scene.read(x, "c+1"), 2);
        expect.same("one that ends before a digit of it", Scene.read(x, "c+"), -1 - 1);
        Scene.read(x, "= +1 +2");
        expect.same("one that ends before a blank of it", Scene.read(x, "="), -1 - 1);
    }

    private void linesComeBehind() {
        expect.words("its lines come behind those that there are: how many there are then");
        ProofLines x = Scene.withInputs(3);
        expect.same("none behind none", Scene.read(x, "\n"), 0);
        expect.same("one behind none", Scene.read(x, "c +1"), 1);
        x.equalLine(3, 5);
        expect.same("two behind two", Scene.read(x, "c\n= -0 +3\n"), 4);
        expect.same("none behind four", Scene.read(x, "\n"), 4);
        expect.same("in their order", Scene.text(x), "c +1\n= -1 -2\nc\n= -0 +3\n");
        expect.same("bad lines come too", x.good(2), false);
        expect.same("up to 24", Scene.read(x, "c\n".repeat(20)), 24);
        expect.same("none behind 24", Scene.read(x, "\n"), 24);
    }

    private void noneOfAFaultComes() {
        expect.words("-1 less the place of its fault: then none of it comes.");
        ProofLines x = Scene.withInputs(3);
        expect.same("at the first byte", Scene.read(x, "x"), -1);
        expect.same("at the second byte", Scene.read(x, "cx"), -2);
        expect.same("at the end", Scene.read(x, "= "), -3);
        Scene.read(x, "c +1 -2\n");
        String before = Scene.everything(x);
        expect.same("in the first line", Scene.read(x, "c +3 +4\nc +1\n"), -1 - 5);
        expect.same("none of it", Scene.everything(x), before);
        expect.same("in the last line", Scene.read(x, "c +3\n= +1 +2\nc +3 x"), -1 - 18);
        expect.same("none of it at all", Scene.everything(x), before);
        expect.same("one line too many", Scene.read(x, "c\n".repeat(23) + "c"), -1 - 46);
        expect.same("none of 24", Scene.everything(x), before);
        expect.same("the next line", x.line(), 1);
        expect.same("is empty", x.lineAt(1, 1), 0);
        expect.same("what is implied", x.implied(5, NONE, NONE, 0), 3);
    }

    private void notThereTwice() {
        expect.words("(A literal that is in a clause already is not there twice.)");
        ProofLines x = Scene.withInputs(3);
        expect.same("clauses", Scene.read(x, "c +1 +1\nc -0 +0 -0 +0 -3 -3\nc +1 -1 +1"), 3);
        expect.same("literals", Scene.lines(x), "[0 1 2][0 3 1 0 7][0 2 2 3]");
        x.clear();
        Scene.read(x, "= +1 +1");
        expect.same("but in an equality it is", Scene.lines(x), "[1 2 2 2]");
        x.clear();
        Scene.read(x, "c +1 +01 + 1 +\t001 -2");
        expect.same("written in other ways", Scene.lines(x), "[0 2 2 5]");
    }

    private void counted() {
        expect.words("Promise 15: How many: what = 0 gates, 1 inputs, 2 lines, 3 bytes on the tape, 4 bytes of the"
                + " text.");
        ProofLines x = new ProofLines();
        int[] least = {1, 0, 0, 0, 0};
        for (int what = 0; what < 5; what++) {
            expect.same("count(" + what + ") of a new object", x.count(what), least[what]);
        }
        x.gate(Scene.INPUT, 0, 0);
        x.gate(Scene.AND, 2, 2);
        x.gate(Scene.EITHER, 2, 2);
        x.gate(Scene.INPUT, 0, 0);
        Scene.read(x, "c\n= +1 +2\nc -0");
        for (int i = 0; i < 7; i++) {
            x.unit('x');
        }
        int[] some = {5, 2, 3, 7, 15};
        for (int what = 0; what < 5; what++) {
            expect.same("count(" + what + ")", x.count(what), some[what]);
        }
    }

    /** The same words of the document, where each number is the greatest. */
    private void countedWhenFull() {
        ProofLines x = Scene.withInputs(39);
        for (int line = 0; line < 24; line++) {
            Scene.clause(x, 20, 21, 22, 23, 24, 25);
        }
        for (int i = 0; i < 1001; i++) {
            x.unit('c');
        }
        int[] most = {40, 39, 24, 1000, 24 * 26};
        for (int what = 0; what < 5; what++) {
            expect.same("count(" + what + ") when full", x.count(what), most[what]);
        }
    }

    private void countedNothing() {
        expect.words("Promise 15: IndexOutOfBoundsException: what is none of these.");
        ProofLines x = new ProofLines();
        for (int what : new int[] {-1, -2, 5, 6, 256, 260, SMALL, SMALL + 1, BIG}) {
            expect.noIndex("count(" + what + ")", () -> x.count(what));
        }
    }

    private void cleared() {
        expect.words("Promise 16: No lines (gates stay).");
        ProofLines x = new ProofLines();
        x.clear();
        expect.same("none of none", x.count(2), 0);
        for (int gate = 1; gate < 40; gate++) {
            x.gate(gate % 3, 2 * gate - 2, 1);
        }
        Scene.read(x, "c -39\n".repeat(24));
        x.clear();
        expect.same("none of 24", x.count(2), 0);
        expect.same("no text", x.count(4), 0);
        expect.noIndex("line 0", () -> x.good(0));
        expect.same("gates", x.count(0), 40);
        expect.same("inputs", x.count(1), 13);
        expect.same("what gates are", x.implied(78, NONE, NONE, 39), 1);
        expect.same("no line tells anything", x.implied(NONE, NONE, NONE, 39), 2);
        expect.same("the first line again", x.line(), 0);
        expect.same("is empty", x.lineAt(0, 1), 0);
        x.clear();
        expect.same("24 lines again", Scene.read(x, "c\n".repeat(24)), 24);
        x.unit('c');
        x.clear();
        expect.same("the tape is none of the lines", x.read(), 1);
    }
}
