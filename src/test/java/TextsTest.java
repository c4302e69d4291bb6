/** Promises 12 (text), 13 (unit), 14 (read), and 15 (count) as far as texts go. */
public final class TextsTest {
    private static final int BIG = Integer.MAX_VALUE;
    private static final int SMALL = Integer.MIN_VALUE;

    public static void main(String[] args) {
        Expect expect = new Expect("texts");
        written(expect);
        wrongPlaces(expect);
        tape(expect);
        readPlain(expect);
        readBlanks(expect);
        readTwice(expect);
        faultsOfBytes(expect);
        faultsOfNumbers(expect);
        faultsOfLiterals(expect);
        faultsOfEqualities(expect);
        faultsOfLines(expect);
        faultsChangeNothing(expect);
        roundTrip(expect);
        expect.end();
    }

    private static void written(Expect expect) {
        ProofLines x = Scene.withInputs(39);
        expect.same("no lines", Scene.text(x), "");
        Scene.clause(x, 0, 19, 20, 79, 78, 1);
        x.line();
        x.equalLine(23, 2);
        String due = "c +0 -9 +10 -39 +39 -0\nc\n= -11 +1\n";
        expect.same("text", Scene.text(x), due);
        expect.same("its length", x.count(4), due.length());
    }

    private static void wrongPlaces(Expect expect) {
        ProofLines x = Scene.withInputs(1);
        x.equalLine(2, 3);
        expect.same("the last byte", x.text(7), 10);
        for (int i : new int[] {-1, 8, 9, SMALL, BIG}) {
            expect.noIndex("text(" + i + ")", () -> x.text(i));
        }
    }

    private static void tape(Expect expect) {
        ProofLines x = new ProofLines();
        for (int i = 0; i < 1000; i++) {
            expect.same("room for byte " + i, x.unit(i == 999 ? 'x' : ' '), true);
        }
        expect.same("a full tape", x.count(3), 1000);
        expect.same("no room", x.unit('c'), false);
        expect.same("still full", x.count(3), 1000);
        expect.same("all of it is read", x.read(), -1 - 999);
        expect.same("empty then", x.count(3), 0);
        expect.same("room again", x.unit(256 + 'c'), true);
        expect.same("one byte", x.count(3), 1);
        expect.same("its lowest eight bits", x.read(), 1);
        x.unit(SMALL + '=');
        expect.same("of a negative number too", x.read(), -1 - 1);
        x.unit('c' - 256);
        expect.same("and of another one", x.read(), 2);
    }

    private static void readPlain(Expect expect) {
        ProofLines x = Scene.withInputs(20);
        expect.same("an empty tape", x.read(), 0);
        expect.same("lines", Scene.read(x, "c +1 -2\n= -10 +0\nc\n"), 3);
        expect.same("what they are", Scene.lines(x), "[0 2 2 5][1 2 21 0][0 0]");
        expect.same("behind those that there are, without a line end", Scene.read(x, "= +20 +20"), 4);
        expect.same("what there is", Scene.lines(x), "[0 2 2 5][1 2 21 0][0 0][1 2 40 40]");
        expect.same("line ends alone", Scene.read(x, "\n\n"), 4);
        expect.same("an empty tape behind lines", x.read(), 4);
        expect.same("a text", Scene.read(x, "c+1+2"), 5);
        expect.same("what was on the tape before does not matter", Scene.read(x, "c+1"), 6);
        expect.same("a number neither", Scene.read(x, "c+"), -1 - 1);
    }

    private static void readBlanks(Expect expect) {
        ProofLines x = Scene.withInputs(20);
        expect.same("no blanks", Scene.read(x, "c+1-2\n=-10+0"), 2);
        expect.same("many blanks", Scene.read(x, "\n\n \t c\t +\r 0020 \t-  7 \r\n\n\n= + 3 - 03\r\n"), 4);
        expect.same("lines with and without blanks", Scene.lines(x), "[0 2 2 5][1 2 21 0][0 2 40 15][1 2 6 7]");
        expect.same("blanks alone", Scene.read(x, " \t\r"), 4);
        expect.same("lines of blanks", Scene.read(x, " \n\r\n c \n  \n\t"), 5);
        expect.same("many 0s", Scene.read(x, "c +" + "0".repeat(400) + " -" + "0".repeat(400) + "20"), 6);
        expect.same("are numbers", x.lineAt(5, 3), 41);
    }

    private static void readTwice(Expect expect) {
        ProofLines x = Scene.withInputs(6);
        expect.same("literals twice", Scene.read(x, "c +1 -1 +1 +2 -1 +2 +2 +3 +3 +4 +4\n= +1 +1"), 2);
        expect.same("are there once in a clause", Scene.lines(x), "[0 5 2 3 4 6 8][1 2 2 2]");
        expect.same("so many", Scene.read(x, "c" + "+1".repeat(450) + "-1"), 3);
        expect.same("are two", x.lineAt(2, 1), 2);
    }

    /** Reads a text that has a fault at that place. */
    private static void fault(Expect expect, int inputs, String text, int place) {
        ProofLines x = Scene.withInputs(inputs);
        String name = "fault of \"" + text.replace("\n", "\\n") + "\"";
        expect.same(name, Scene.read(x, text), -1 - place);
        expect.same(name + ": lines", x.count(2), 0);
        expect.same(name + ": tape", x.count(3), 0);
    }

    private static void faultsOfBytes(Expect expect) {
        fault(expect, 3, "x", 0);
        fault(expect, 3, "  +1", 2);
        fault(expect, 3, "C", 0);
        fault(expect, 3, "cc", 1);
        fault(expect, 3, "c 1", 2);
        fault(expect, 3, "c +1 2", 5);
        fault(expect, 3, "c +1=", 4);
        fault(expect, 3, "c +1 c", 5);
        fault(expect, 3, "c +1\n +1", 6);
        fault(expect, 3, "c\n\n x", 4);
        fault(expect, 3, "c +1,+2", 4);
        fault(expect, 3, "c" + (char) 11, 1);
        fault(expect, 3, "c" + (char) 0, 1);
        fault(expect, 3, "" + (char) 255, 0);
        fault(expect, 3, "" + (char) (128 + 'c'), 0);
        fault(expect, 3, "= +1 +2 =", 8);
        fault(expect, 3, "= +1 x", 5);
    }

    private static void faultsOfNumbers(Expect expect) {
        fault(expect, 3, "c +", 2);
        fault(expect, 3, "c -  ", 2);
        fault(expect, 3, "c +\n", 2);
        fault(expect, 3, "c +x", 2);
        fault(expect, 3, "c +1 - -2", 5);
        fault(expect, 3, "c +-1", 2);
        fault(expect, 3, "c + \n1", 2);
        fault(expect, 3, "c +4", 2);
        fault(expect, 3, "c +3 -40", 5);
        fault(expect, 3, "c -10x", 2);
        fault(expect, 39, "c +39 +40", 6);
        fault(expect, 39, "c +4294967297", 2);
        fault(expect, 39, "c +18446744073709551617", 2);
        fault(expect, 39, "c +" + "9".repeat(500), 2);
        fault(expect, 39, "c +1" + "0".repeat(500), 2);
        fault(expect, 0, "c +0 +1", 5);
    }

    private static void faultsOfLiterals(Expect expect) {
        String six = "c +1 -1 +2 -2 +3 -3";
        fault(expect, 4, six + " +4", 20);
        fault(expect, 4, six + " +1", 20);
        fault(expect, 4, six + "-3", 19);
        fault(expect, 4, six + " -", 20);
        fault(expect, 4, six + "+99", 19);
        fault(expect, 4, six + " x", 20);
        fault(expect, 4, "c +1 +1 -1 +2 -2 +3 -3 +3", 23);
        fault(expect, 4, "= +1 +2 +3", 8);
        fault(expect, 4, "= +1 +1 +1", 8);
        fault(expect, 4, "= +1 +2+", 7);
        ProofLines x = Scene.withInputs(4);
        expect.same("six different ones", Scene.read(x, six + " \n"), 1);
    }

    private static void faultsOfEqualities(Expect expect) {
        fault(expect, 3, "=", 1);
        fault(expect, 3, "=  ", 3);
        fault(expect, 3, "=\n+1 +2", 1);
        fault(expect, 3, "= +1\n", 4);
        fault(expect, 3, "= +1 \r\n", 6);
        fault(expect, 3, "= +1", 4);
        fault(expect, 3, "= +1\t ", 6);
        fault(expect, 3, "c +1\n=\nx", 6);
        fault(expect, 3, "= +1 -", 5);
    }

    private static void faultsOfLines(Expect expect) {
        String many = "c\n".repeat(24);
        fault(expect, 3, many + "c", 48);
        fault(expect, 3, many + "\n =", 50);
        fault(expect, 3, many + "cx", 48);
        fault(expect, 3, many + "x", 48);
        ProofLines x = Scene.withInputs(3);
        expect.same("24 lines", Scene.read(x, many + "\n \n"), 24);
        expect.same("nothing behind 24 lines", Scene.read(x, " \n"), 24);
        expect.same("one too many at once", Scene.read(x, " = +1 +1"), -1 - 1);
        expect.same("24 lines stay", x.count(2), 24);
        x.clear();
        expect.same("23 lines", Scene.read(x, "c\n".repeat(23)), 23);
        expect.same("two more are too many", Scene.read(x, "= +1 +2\nc +1"), -1 - 8);
        expect.same("none of them comes", x.count(2), 23);
        expect.same("one more is not", Scene.read(x, "= +1 +2"), 24);
    }

    private static void faultsChangeNothing(Expect expect) {
        ProofLines x = Scene.withInputs(3);
        Scene.read(x, "c +1 -2\n= -3 +0\n");
        String before = Scene.everything(x);
        expect.same("a fault behind good lines", Scene.read(x, "c +2\n= +1 +2\nc +3 +4"), -1 - 18);
        expect.same("changes", Scene.everything(x), before);
        expect.same("the next line", x.line(), 2);
        expect.same("is empty", x.lineAt(2, 1), 0);
    }

    private static void roundTrip(Expect expect) {
        ProofLines x = Scene.withInputs(39);
        Scene.clause(x, 79, 0, 1, 44, 45, 20);
        x.equalLine(77, 77);
        x.line();
        ProofLines y = Scene.withInputs(39);
        expect.same("what is written is read", Scene.read(y, Scene.text(x)), 3);
        expect.same("as the same lines", Scene.lines(y), Scene.lines(x));
        ProofLines z = Scene.withInputs(39);
        for (int line = 0; line < 24; line++) {
            Scene.clause(z, 20, 21, 22, 23, 24, 79);
        }
        expect.same("the longest text", z.count(4), 24 * 26);
        expect.same("its last byte", z.text(24 * 26 - 1), 10);
        expect.same("the last digit", z.text(24 * 26 - 2), (int) '9');
        expect.noIndex("behind it", () -> z.text(24 * 26));
    }
}
