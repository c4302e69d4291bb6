/** The document's "3 TEXTS": each sentence that names a boundary case, above all each fault, under its own words. */
public final class EdgesOfTextsTest {
    private static final String BLANKS = "\t\r ";
    private static final String SIX = "c +1 -1 +2 -2 +3 -3";

    private final Expect expect = new Expect("edges of texts");

    public static void main(String[] args) {
        EdgesOfTextsTest test = new EdgesOfTextsTest();
        test.expect.each(
                test::linesAreWritten, test::blanksMayStand, test::lineEndsMayStand, test::numbersMayBeginWithZeros,
                test::faultsHaveTheFirstPlace, test::anotherByte, test::everyOtherByte, test::numbersWithoutDigits,
                test::numbersOfNoGate, test::literalsTooMany, test::literalsTooManyOfAnEquality,
                test::lineEndsTooEarly, test::linesTooMany);
        test.expect.end();
    }

    private static String shown(String text) {
        return "\"" + text.replace("\n", "\\n").replace("\t", "\\t").replace("\r", "\\r") + "\"";
    }

    /** Reads a text that has a fault at that place, none of which comes. */
    private void fault(int inputs, String text, int place) {
        ProofLines x = Scene.withInputs(inputs);
        expect.same("fault of " + shown(text), Scene.read(x, text), -1 - place);
        expect.same("lines after " + shown(text), x.count(2), 0);
    }

    /** Reads a text without a fault. */
    private void good(int inputs, String text, String lines) {
        ProofLines x = Scene.withInputs(inputs);
        int read = Scene.read(x, text);
        expect.same("how many of " + shown(text), read, x.count(2));
        expect.same("lines of " + shown(text), read < 0 ? "a fault at " + (-1 - read) : Scene.lines(x), lines);
    }

    private void linesAreWritten() {
        expect.words("A line is written: c or =, then for each literal a blank, + or (turned) -, and the gate's number"
                + " in digits; then a line end (10).");
        ProofLines x = Scene.withInputs(39);
        expect.same("no line", Scene.text(x), "");
        x.line();
        expect.same("a clause of none", Scene.text(x), "c\n");
        x.literal(0, 0);
        expect.same("FALSE", Scene.text(x), "c +0\n");
        x.literal(0, 1);
        expect.same("FALSE turned", Scene.text(x), "c +0 -0\n");
        x.literal(0, 19);
        x.literal(0, 20);
        expect.same("one digit and two", Scene.text(x), "c +0 -0 -9 +10\n");
        x.literal(0, 78);
        x.literal(0, 79);
        expect.same("six, the last gate too", Scene.text(x), "c +0 -0 -9 +10 +39 -39\n");
        x.equalLine(61, 60);
        expect.same("an equality, a number that ends with 0", Scene.text(x), "c +0 -0 -9 +10 +39 -39\n= -30 +30\n");
        expect.same("the last byte", x.text(x.count(4) - 1), 10);
    }

    private void blanksMayStand() {
        expect.words("Read, blanks (9, 13, 32) may stand (or not) before and behind each of these parts (c or =,"
                + " + or -, the number)");
        String[] parts = {"c", "+", "1", "-", "12", "\n", "=", "-", "0", "+", "1"};
        String due = "[0 2 2 25][1 2 1 2]";
        good(12, String.join("", parts), due);
        for (int i = 0; i < BLANKS.length(); i++) {
            String blank = BLANKS.substring(i, i + 1);
            for (int place = 0; place <= parts.length; place++) {
                good(12, withBlanks(parts, place, blank), due);
                good(12, withBlanks(parts, place, blank + blank + blank), due);
            }
            good(12, blank + String.join(blank, parts) + blank, due);
        }
        good(12, String.join(BLANKS, parts), due);
        good(12, " c", "[0 0]");
        good(12, "c ", "[0 0]");
        good(12, " ".repeat(490) + "c", "[0 0]");
        fault(12, "c +1 2", 5);
        for (int other : new int[] {0, 8, 11, 12, 14, 31, 33, 128 + 9, 128 + 13, 128 + 32, 255}) {
            fault(12, "c" + (char) other, 1);
            fault(12, "c +1" + (char) other + "+2", 4);
        }
    }

    private static String withBlanks(String[] parts, int place, String blanks) {
        StringBuilder out = new StringBuilder();
        for (int i = 0; i < parts.length; i++) {
            out.append(i == place ? blanks : "").append(parts[i]);
        }
        return out.append(place == parts.length ? blanks : "").toString();
    }

    private void lineEndsMayStand() {
        expect.words("and line ends between lines as many as one likes");
        good(2, "", "");
        good(2, "\n", "");
        good(2, "\n\n\n", "");
        good(2, "c +1\nc +2", "[0 1 2][0 1 4]");
        good(2, "c +1\n\nc +2\n", "[0 1 2][0 1 4]");
        good(2, "\n\nc +1" + "\n".repeat(400) + "c +2\n\n\n", "[0 1 2][0 1 4]");
        good(2, "c\nc", "[0 0][0 0]");
        good(2, "c\r\n \n\t\n c \n ", "[0 0][0 0]");
        good(2, " ", "");
        fault(2, "c +1c +2", 4);
        fault(2, "c +1 c +2", 5);
        fault(2, "c= +1 +2", 1);
        fault(2, "= +1 +2= +1 +2", 7);
        fault(2, "c\n+1", 2);
        fault(2, "c +1\n+2", 5);
        fault(2, "= +1\n+2", 4);
        fault(2, "c +\n1", 2);
    }

    private void numbersMayBeginWithZeros() {
        expect.words("numbers may begin with 0s");
        good(12, "c +0", "[0 1 0]");
        good(12, "c +00", "[0 1 0]");
        good(12, "c -" + "0".repeat(490), "[0 1 1]");
        good(12, "c +01 +012", "[0 2 2 24]");
        good(12, "= +" + "0".repeat(240) + "12 -" + "0".repeat(240) + "1", "[1 2 24 3]");
        good(12, "c +1 +01 +001", "[0 1 2]");
        good(10, "c +10", "[0 1 20]");
        fault(12, "c +013", 2);
        fault(12, "c +1 -" + "0".repeat(400) + "13", 5);
        fault(12, "c +0 0", 5);
    }

    private void faultsHaveTheFirstPlace() {
        expect.words("FAULT, the place of the first byte of what cannot be (or the end)");
        fault(3, "x", 0);
        fault(3, "xx", 0);
        fault(3, "c +1 x +9 y", 5);
        fault(3, "c +9 x", 2);
        fault(3, "\n \nc +1\n\tx", 9);
        fault(3, "c +1 +2\n= +1 +3\nc -1 +4", 21);
        fault(3, "=", 1);
        fault(3, "= +1", 4);
        fault(3, "= +1 ", 5);
        fault(3, "c" + " ".repeat(490) + "x", 491);
        ProofLines x = Scene.withInputs(3);
        Scene.read(x, "c +1\n");
        expect.same("a fault of the next text, from its own beginning", Scene.read(x, "c x"), -1 - 2);
    }

    private void anotherByte() {
        expect.words("another byte than must be");
        fault(3, "+1", 0);
        fault(3, "1", 0);
        fault(3, "C +1", 0);
        fault(3, "-", 0);
        fault(3, "c1", 1);
        fault(3, "cc", 1);
        fault(3, "c =", 2);
        fault(3, "= c", 2);
        fault(3, "==", 1);
        fault(3, "= 1 2", 2);
        fault(3, "= +1 2", 5);
        fault(3, "= +1 x", 5);
        fault(3, "= +1 +2 x", 8);
        fault(3, "c +1.", 4);
        fault(3, "c +1 , +2", 5);
        fault(3, SIX + " x", 20);
        fault(3, SIX + " 1", 20);
        fault(3, "c\nd", 2);
    }

    /** Each of the 256 bytes in each kind of place: what is not told to be fine there is a fault. */
    private void everyOtherByte() {
        for (int u = 0; u < 256; u++) {
            String unit = String.valueOf((char) u);
            boolean isBlank = u == 9 || u == 13 || u == 32;
            boolean isSign = unit.equals("+") || unit.equals("-");
            boolean isFirst = unit.equals("c") || unit.equals("=");
            boolean isDigit = u >= '0' && u <= '9';
            byteAt("before a line", unit + "c+1", isBlank || u == 10 ? 1 : isFirst ? -1 - 1 : -1 - 0);
            byteAt("behind c", "c" + unit + "+1", isBlank ? 1 : u == 10 ? -1 - 2 : -1 - 1);
            byteAt("behind a sign", "c+" + unit + "1", isBlank || u == '0' ? 1 : -1 - 1);
            byteAt("behind a number", "c+1" + unit + "\n", isBlank || u == 10 ? 1 : isDigit ? -1 - 1 : -1 - 3);
            byteAt("behind one of an equality", "=+1" + unit + "+2",
                    isBlank ? 1 : isDigit ? -1 - 1 : -1 - 3);
            byteAt("behind an equality", "=+1+2" + unit, isBlank || u == 10 ? 1 : isDigit ? -1 - 3 : -1 - 5);
            byteAt("behind a line", "c\n" + unit, isBlank || u == 10 ? 1 : unit.equals("c") ? 2
                    : unit.equals("=") ? -1 - 3 : -1 - 2);
            expect.same("a sign is a literal's beginning, byte " + u,
                    Scene.read(Scene.withInputs(2), "c" + unit + "2") > 0, isSign);
        }
    }

    private void byteAt(String where, String text, int due) {
        expect.same("byte " + where + ", " + shown(text), Scene.read(Scene.withInputs(2), text), due);
    }

    private void numbersWithoutDigits() {
        expect.words("a number without digits or of no gate (where + or - stands)");
        fault(3, "c+", 1);
        fault(3, "c +", 2);
        fault(3, "c -", 2);
        fault(3, "c + \t\r", 2);
        fault(3, "c +\n", 2);
        fault(3, "c + \n", 2);
        fault(3, "c +x", 2);
        fault(3, "c +   x", 2);
        fault(3, "c +c", 2);
        fault(3, "c +=", 2);
        fault(3, "c ++1", 2);
        fault(3, "c -+1", 2);
        fault(3, "c +1 - +2", 5);
        fault(3, "= +", 2);
        fault(3, "= +1 -", 5);
        fault(3, "= +1 -\n", 5);
        fault(3, "c +" + (char) ('0' - 1), 2);
        fault(3, "c +" + (char) ('9' + 1), 2);
    }

    /** The same words of the document: numbers that are too great, by one or by so much that they would wrap around. */
    private void numbersOfNoGate() {
        fault(0, "c +1", 2);
        good(0, "c +0", "[0 1 0]");
        fault(3, "c +4", 2);
        good(3, "c +3", "[0 1 6]");
        fault(9, "c +3 -10", 5);
        good(9, "c +3 -9", "[0 2 6 19]");
        fault(39, "c +40", 2);
        good(39, "c +39", "[0 1 78]");
        fault(39, "= +39 -  41", 6);
        fault(39, "c +390", 2);
        fault(39, "c   +  40", 4);
        fault(39, "c +100", 2);
        fault(39, "c +256", 2);
        fault(39, "c +65537", 2);
        fault(39, "c +2147483647", 2);
        fault(39, "c +2147483648", 2);
        fault(39, "c +2147483649", 2);
        fault(39, "c +4294967295", 2);
        fault(39, "c +4294967296", 2);
        fault(39, "c +4294967297", 2);
        fault(39, "c +42949672960", 2);
        fault(39, "c +18446744073709551616", 2);
        fault(39, "c +18446744073709551617", 2);
        fault(39, "c -" + "9".repeat(450), 2);
        fault(39, "c -1" + "0".repeat(450), 2);
    }

    private void literalsTooMany() {
        expect.words("a literal too many (likewise: behind six different ones any)");
        good(4, SIX, "[0 6 2 3 4 5 6 7]");
        fault(4, SIX + " +4", 20);
        fault(4, SIX + "  -4", 21);
        fault(4, SIX + "+4", 19);
        fault(4, SIX + " +0", 20);
        fault(4, SIX + " +1", 20);
        fault(4, SIX + " -3", 20);
        fault(4, SIX + " -9", 20);
        fault(4, SIX + " +", 20);
        fault(4, SIX + " +x", 20);
        fault(4, SIX + " +4 +4", 20);
        good(4, "c +1 +1 -1 -1 +2 +1 -2 -2 +3 +2 -3", "[0 6 2 3 4 5 6 7]");
        fault(4, "c +1 +1 -1 -1 +2 +1 -2 -2 +3 +2 -3 -3", 35);
        good(4, "c +1 +1 +1 +1 +1 +1 +1 +1", "[0 1 2]");
        good(4, "c" + "+1-2".repeat(120), "[0 2 2 5]");
        good(4, "c +1 -1 +2 -2 +3 +3 +3 -3", "[0 6 2 3 4 5 6 7]");
        fault(4, "c\n" + SIX + "\n" + SIX + " +0", 42);
        fault(4, "c\n".repeat(23) + SIX + " +0", 66);
    }

    private void literalsTooManyOfAnEquality() {
        expect.words("a literal too many");
        good(4, "= +1 +2", "[1 2 2 4]");
        good(4, "= +1 +1", "[1 2 2 2]");
        fault(4, "= +1 +2 +3", 8);
        fault(4, "= +1 +1 +1", 8);
        fault(4, "= +1 +1 +2", 8);
        fault(4, "= +1 +2+", 7);
        fault(4, "= +1 +2 \t-9", 9);
        fault(4, "=+1+2-1\n", 5);
        fault(4, "c\n".repeat(23) + "= +1 +2 +3", 54);
    }

    private void lineEndsTooEarly() {
        expect.words("a line end too early for an equality");
        fault(3, "=\n", 1);
        fault(3, "= \n", 2);
        fault(3, "=\n\n+1 +2", 1);
        fault(3, "= +1\n", 4);
        fault(3, "= +1 \t\r\n", 7);
        fault(3, "= +1\n+2\n", 4);
        fault(3, "= +1\nc", 4);
        fault(3, "c\n= +1\n", 6);
        fault(3, "=", 1);
        fault(3, "=  ", 3);
        fault(3, "= +1", 4);
        fault(3, "= +1  ", 6);
        good(3, "= +1 +2\n", "[1 2 2 4]");
        good(3, "c\nc +1\n", "[0 0][0 1 2]");
    }

    private void linesTooMany() {
        expect.words("a line too many (at c or =)");
        String full = "c\n".repeat(24);
        good(3, full, "[0 0]".repeat(24));
        good(3, full + "\n \n", "[0 0]".repeat(24));
        fault(3, full + "c", 48);
        fault(3, full + "c\n", 48);
        fault(3, full + "= +1 +2\n", 48);
        fault(3, full + "=", 48);
        fault(3, full + "\n\n \tc +9", 52);
        fault(3, full + "cx", 48);
        fault(3, full + "x", 48);
        fault(3, full + "c\nc\nc", 48);
        ProofLines x = Scene.withInputs(3);
        Scene.read(x, "c\n".repeat(23));
        expect.same("two behind 23", Scene.read(x, " c\n =+1+2"), -1 - 4);
        expect.same("one behind 23", Scene.read(x, " c\n "), 24);
        expect.same("one behind 24", Scene.read(x, "\n="), -1 - 1);
        expect.same("none behind 24", Scene.read(x, "\n\n"), 24);
        x.clear();
        expect.same("24 behind none again", Scene.read(x, full), 24);
    }
}
