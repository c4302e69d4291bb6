import java.util.Random;

/** Long runs of calls, each answer compared with the model's; what is proved is looked at for all inputs too. */
public final class ModelTest {
    private static final int RUNS = 800;
    private static final int MOST_CALLS = 512;
    private static final String UNITS = "c=+-0123459 \t\r\nx";

    private final Expect expect;
    private final Random random;
    private final int run;
    private final boolean isCareful;
    private final ProofLines x = new ProofLines();
    private final Model model = new Model();
    private int calls = 0;

    private static int proved = 0;
    private static int left = 0;
    private static int readWell = 0;
    private static int readBadly = 0;

    private ModelTest(Expect expect, int run) {
        this.expect = expect;
        this.run = run;
        this.random = new Random(run);
        this.isCareful = run % 2 == 0;
    }

    public static void main(String[] args) {
        Expect expect = new Expect("model");
        for (int run = 0; run < RUNS && expect.isGood(); run++) {
            new ModelTest(expect, run).go();
        }
        // Runs that come to nothing would compare nothing that matters.
        expect.same("enough claims were proved", proved > RUNS, true);
        expect.same("enough lines were left after shortening", left > RUNS / 10, true);
        expect.same("enough texts were read", readWell > RUNS, true);
        expect.same("enough texts had faults", readBadly > RUNS, true);
        System.out.println("model: " + proved + " claims proved, " + left + " lines left, " + readWell + " texts read, "
                + readBadly + " with faults");
        expect.end();
    }

    private void go() {
        int inputs = 1 + random.nextInt(random.nextInt(10) == 0 ? 38 : 4);
        int others = random.nextInt(random.nextInt(10) == 0 ? 40 : 9);
        for (int i = 0; i < inputs + others; i++) {
            callGate(i < inputs ? 0 : 1 + random.nextInt(2));
        }
        while (calls < MOST_CALLS - 60 && expect.isGood()) {
            oneCall();
        }
        compareAll();
    }

    private void compare(String call, Expect.Call ofProgram, Expect.Call ofModel) {
        calls++;
        expect.same("run " + run + ", call " + calls + ", " + call, Expect.outcome(ofProgram), Expect.outcome(ofModel));
    }

    private int literal() {
        if (random.nextInt(40) == 0) {
            int[] wrong = {-1, -2, 2 * model.gates.size(), 80, Integer.MAX_VALUE, Integer.MIN_VALUE};
            return wrong[random.nextInt(wrong.length)];
        }
        return random.nextInt(2 * model.gates.size());
    }

    private int lineNumber() {
        if (random.nextInt(30) == 0 || model.lines.isEmpty()) {
            int[] wrong = {-1, model.lines.size(), 24, Integer.MAX_VALUE, Integer.MIN_VALUE};
            return wrong[random.nextInt(wrong.length)];
        }
        return random.nextInt(model.lines.size());
    }

    private int literalOrNone() {
        return random.nextInt(3) == 0 ? ProofLines.NONE : literal();
    }

    /** One bad line spoils a proof, so a careful run makes none. */
    private void oneCall() {
        int kind = random.nextInt(24);
        if (isCareful && (kind <= 3 || kind == 15 || kind == 17)) {
            callGoodLine();
        } else {
            callOfKind(kind);
        }
    }

    private void callOfKind(int kind) {
        switch (kind) {
            case 0:
                callGate(random.nextInt(30) == 0 ? random.nextInt() : random.nextInt(3));
                break;
            case 1:
                callLineAndLiterals(random.nextInt(7));
                break;
            case 2:
                callLiteral(lineNumber(), literal());
                break;
            case 3:
                callEqualLine(literal(), literal());
                break;
            case 4: case 5:
                callCheck(literal());
                break;
            case 6: case 7:
                int line = lineNumber();
                compare("good(" + line + ")", () -> x.good(line), () -> model.good(line));
                break;
            case 8: case 9:
                callLineAt();
                break;
            case 10: case 11:
                callImplied();
                break;
            case 12:
                callShorten();
                break;
            case 13:
                callHolds();
                break;
            case 14:
                callText();
                break;
            case 15:
                callRead();
                break;
            case 16:
                int what = random.nextInt(7) - 1;
                compare("count(" + what + ")", () -> x.count(what), () -> model.count(what));
                break;
            case 17:
                callClear();
                break;
            default:
                callGoodLine();
                break;
        }
    }

    private void callGate(int kind) {
        int a = literal();
        int b = literal();
        compare("gate(" + kind + ", " + a + ", " + b + ")", () -> x.gate(kind, a, b), () -> model.gate(kind, a, b));
    }

    private void callLineAndLiterals(int literals) {
        compare("line()", () -> x.line(), () -> model.line());
        for (int i = 0; i < literals; i++) {
            callLiteral(model.lines.size() - 1, literal());
        }
    }

    private void callLiteral(int line, int literal) {
        compare("literal(" + line + ", " + literal + ")", () -> x.literal(line, literal),
                () -> model.literal(line, literal));
    }

    private void callEqualLine(int a, int b) {
        compare("equalLine(" + a + ", " + b + ")", () -> x.equalLine(a, b), () -> model.equalLine(a, b));
    }

    /** A line that follows from the others, if a few tries bring one. */
    private void callGoodLine() {
        for (int tries = 0; tries < 30; tries++) {
            Model.Line line = new Model.Line(random.nextInt(4) == 0);
            int size = line.isEquality ? 2 : 1 + random.nextInt(3);
            for (int i = 0; i < size; i++) {
                line.literals.add(random.nextInt(2 * model.gates.size()));
            }
            if (!model.follows(line, model.lines)) {
                continue;
            }
            if (line.isEquality) {
                callEqualLine(line.literals.get(0), line.literals.get(1));
            } else {
                compare("line()", () -> x.line(), () -> model.line());
                line.literals.forEach(literal -> callLiteral(model.lines.size() - 1, literal));
            }
            return;
        }
    }

    private void callCheck(int claim) {
        compare("check(" + claim + ")", () -> x.check(claim), () -> model.check(claim));
        if (Integer.valueOf(0).equals(Expect.outcome(() -> x.check(claim))) && x.count(1) <= 4) {
            proved++;
            for (long inputs = 0; inputs < 1L << x.count(1); inputs++) {
                expect.same("run " + run + ": proved " + claim + " at " + inputs, x.holds(claim, inputs), true);
            }
        }
    }

    private void callLineAt() {
        int line = lineNumber();
        int i = random.nextInt(20) == 0 ? random.nextInt() : random.nextInt(10) - 1;
        compare("lineAt(" + line + ", " + i + ")", () -> x.lineAt(line, i), () -> model.lineAt(line, i));
    }

    private void callImplied() {
        int a = literalOrNone();
        int b = literalOrNone();
        int c = literalOrNone();
        int gate = random.nextInt(20) == 0 ? literal() : random.nextInt(model.gates.size());
        compare("implied(" + a + ", " + b + ", " + c + ", " + gate + ")", () -> x.implied(a, b, c, gate),
                () -> model.implied(a, b, c, gate));
    }

    /** Mostly for a claim that stands, and best one that needs some lines. */
    private void callShorten() {
        int claim = literal();
        for (int tries = 0; tries < 10 && !Integer.valueOf(0).equals(checkOfModel(claim)); tries++) {
            claim = literal();
        }
        int chosen = claim;
        compare("shorten(" + chosen + ")", () -> x.shorten(chosen), () -> model.shorten(chosen));
        left += Integer.valueOf(0).equals(checkOfModel(chosen)) ? model.lines.size() : 0;
        expect.same("run " + run + ": lines after shorten(" + chosen + ")", Scene.text(x), model.wholeText());
    }

    private Object checkOfModel(int claim) {
        return Expect.outcome(() -> model.check(claim));
    }

    private void callHolds() {
        int literal = literal();
        long inputs = random.nextLong();
        compare("holds(" + literal + ", " + inputs + ")", () -> x.holds(literal, inputs),
                () -> model.holds(literal, inputs));
    }

    private void callText() {
        int i = random.nextInt(model.wholeText().length() + 3) - 1;
        compare("text(" + i + ")", () -> x.text(i), () -> model.text(i));
    }

    private void callRead() {
        String text = someText();
        for (int i = 0; i < text.length(); i++) {
            int u = text.charAt(i) + 256 * (random.nextInt(9) - 4);
            compare("unit(" + u + ")", () -> x.unit(u), () -> model.unit(u));
        }
        Object answer = Expect.outcome(() -> model.count(2));
        compare("read() of \"" + text + "\"", () -> x.read(), () -> model.read());
        if (answer.equals(model.lines.size())) {
            readBadly++;
        } else {
            readWell++;
        }
    }

    /** A text of lines, now and then with a byte that is another one, too many or gone. */
    private String someText() {
        StringBuilder out = new StringBuilder();
        int lines = 1 + random.nextInt(3);
        for (int i = 0; i < lines; i++) {
            boolean isEquality = random.nextBoolean();
            int literals = isEquality ? 2 : random.nextInt(random.nextInt(4) == 0 ? 9 : 4);
            out.append(blanks()).append(isEquality ? '=' : 'c').append(blanks());
            for (int k = 0; k < literals; k++) {
                out.append(random.nextBoolean() ? '+' : '-').append(blanks());
                out.append(random.nextInt(5) == 0 ? "00" : "").append(random.nextInt(model.gates.size()));
                out.append(blanks());
            }
            out.append('\n');
        }
        int changes = random.nextInt(3);
        for (int i = 0; i < changes; i++) {
            int place = random.nextInt(out.length());
            String unit = String.valueOf(UNITS.charAt(random.nextInt(UNITS.length())));
            out.replace(place, place + random.nextInt(2), random.nextInt(3) == 0 ? "" : unit);
            out.append(' ');
        }
        return out.toString();
    }

    private String blanks() {
        return new String[] {"", "", "", " ", " ", "\t", "\r ", "  "}[random.nextInt(8)];
    }

    private void callClear() {
        if (random.nextInt(4) == 0) {
            calls++;
            x.clear();
            model.clear();
        }
    }

    private void compareAll() {
        for (int what = 0; what < 5; what++) {
            expect.same("run " + run + ": count(" + what + ") at the end", x.count(what), model.count(what));
        }
        expect.same("run " + run + ": text at the end", Scene.text(x), model.wholeText());
    }
}
