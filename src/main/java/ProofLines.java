import java.util.Arrays;

/**
 * Lines of a proof about gates, and who checks them: each line must follow by unit steps from what
 * gates are and from the lines before it. The promises stand in ../shared/DOC.md.
 *
 * <p>All rows are made with the object and used again, so that no call makes anything.
 */
public final class ProofLines {
    public static final int NONE = -1;

    private static final int MOST_GATES = 40;
    private static final int MOST_LINES = 24;
    private static final int MOST_LITERALS = 6;
    private static final int MOST_BYTES = 1000;

    private static final int INPUT = 0;
    private static final int AND = 1;
    private static final int EITHER = 2;

    private static final int CLAUSE = 0;
    private static final int EQUALITY = 1;
    private static final int SIDES = 2;

    /** What is told of a gate or a literal; these are answers of implied() too. */
    private static final int IS_FALSE = 0;
    private static final int IS_TRUE = 1;
    private static final int UNTOLD = 2;
    private static final int CONFLICT = 3;

    private static final int TAB = 9;
    private static final int LINE_END = 10;
    private static final int RETURN = 13;

    private final Gates gates;
    private final Proof proof;
    private final UnitSteps steps;
    private final Tape tape;

    public ProofLines() {
        gates = new Gates();
        proof = new Proof();
        steps = new UnitSteps(gates, proof);
        tape = new Tape(gates, proof);
    }

    public int gate(int kind, int a, int b)
            throws IndexOutOfBoundsException, IllegalArgumentException, UnsupportedOperationException {
        if (kind != INPUT && !(gates.hasLiteral(a) && gates.hasLiteral(b))) {
            throw new IndexOutOfBoundsException("no such literal");
        }
        if (kind != INPUT && kind != AND && kind != EITHER) {
            throw new IllegalArgumentException("no such kind of gate");
        }
        if (gates.size >= MOST_GATES) {
            throw new UnsupportedOperationException("no more gates");
        }
        return gates.add(kind, a, b);
    }

    public int line() throws UnsupportedOperationException {
        if (proof.isFull()) {
            throw new UnsupportedOperationException("no more lines");
        }
        return proof.add(CLAUSE);
    }

    public boolean literal(int line, int literal)
            throws IndexOutOfBoundsException, IllegalArgumentException, UnsupportedOperationException {
        if (!proof.has(line) || !gates.hasLiteral(literal)) {
            throw new IndexOutOfBoundsException("no such line or literal");
        }
        if (proof.kinds[line] == EQUALITY) {
            throw new IllegalArgumentException("the line is an equality");
        }
        if (proof.contains(line, literal)) {
            return false;
        }
        if (proof.isLineFull(line)) {
            throw new UnsupportedOperationException("no more literals");
        }
        proof.append(line, literal);
        return true;
    }

    public int equalLine(int a, int b) throws IndexOutOfBoundsException, UnsupportedOperationException {
        if (!gates.hasLiteral(a) || !gates.hasLiteral(b)) {
            throw new IndexOutOfBoundsException("no such literal");
        }
        if (proof.isFull()) {
            throw new UnsupportedOperationException("no more lines");
        }
        int line = proof.add(EQUALITY);
        proof.append(line, a);
        proof.append(line, b);
        return line;
    }

    public int check(int claim) throws IndexOutOfBoundsException {
        if (!gates.hasLiteral(claim)) {
            throw new IndexOutOfBoundsException("no such literal");
        }
        return firstBad(0, claim);
    }

    public boolean good(int line) throws IndexOutOfBoundsException {
        if (!proof.has(line)) {
            throw new IndexOutOfBoundsException("no such line");
        }
        return steps.lineFollows(line);
    }

    public int lineAt(int line, int i) throws IndexOutOfBoundsException {
        if (!proof.has(line) || i < 0 || i >= 2 + proof.sizes[line]) {
            throw new IndexOutOfBoundsException("no such line or place");
        }
        if (i == 0) {
            return proof.kinds[line];
        }
        return i == 1 ? proof.sizes[line] : proof.literalOf(line, i - 2);
    }

    public int implied(int a, int b, int c, int gate) throws IndexOutOfBoundsException {
        if (!isNoneOrLiteral(a) || !isNoneOrLiteral(b) || !isNoneOrLiteral(c) || !gates.has(gate)) {
            throw new IndexOutOfBoundsException("no such literal or gate");
        }
        steps.begin();
        assumeUnlessNone(a);
        assumeUnlessNone(b);
        assumeUnlessNone(c);
        return steps.comeToConflict(proof.size) ? CONFLICT : steps.told[gate];
    }

    public int shorten(int claim) throws IndexOutOfBoundsException {
        if (!gates.hasLiteral(claim)) {
            throw new IndexOutOfBoundsException("no such literal");
        }
        if (firstBad(0, claim) != 0) {
            return NONE;
        }
        for (int line = proof.size - 1; line >= 0; line--) {
            proof.leftOut[line] = true;
            // The lines before this one are all still there, so they stay good: only later ones can turn bad.
            proof.leftOut[line] = firstBad(line + 1, claim) == 0;
        }
        proof.moveUp();
        return proof.size;
    }

    public boolean holds(int literal, long inputs) throws IndexOutOfBoundsException {
        if (!gates.hasLiteral(literal)) {
            throw new IndexOutOfBoundsException("no such literal");
        }
        return gates.isTrueWith(literal, inputs);
    }

    public int text(int i) throws IndexOutOfBoundsException {
        if (i < 0 || i >= Text.lengthOf(proof)) {
            throw new IndexOutOfBoundsException("no such place");
        }
        return Text.byteOf(proof, i);
    }

    public boolean unit(int u) {
        return tape.append(u);
    }

    public int read() {
        int before = proof.size;
        int fault = tape.readAll();
        if (fault == NONE) {
            return proof.size;
        }
        proof.size = before;
        return -1 - fault;
    }

    public int count(int what) throws IndexOutOfBoundsException {
        switch (what) {
            case 0:
                return gates.size;
            case 1:
                return gates.inputs;
            case 2:
                return proof.size;
            case 3:
                return tape.size;
            case 4:
                return Text.lengthOf(proof);
            default:
                throw new IndexOutOfBoundsException("nothing that is counted");
        }
    }

    public void clear() {
        proof.size = 0;
    }

    /** What check() answers when all lines before this one are known to be good. */
    private int firstBad(int from, int claim) {
        for (int line = from; line < proof.size; line++) {
            if (!proof.leftOut[line] && !steps.lineFollows(line)) {
                return 1 + line;
            }
        }
        return steps.literalFollows(claim) ? 0 : 1 + proof.size;
    }

    private boolean isNoneOrLiteral(int literal) {
        return literal == NONE || gates.hasLiteral(literal);
    }

    private void assumeUnlessNone(int literal) {
        if (literal != NONE) {
            steps.tell(literal, IS_TRUE);
        }
    }

    /** The gates, FALSE being number 0; the literals of a gate are always of earlier ones. */
    private static final class Gates {
        private final int[] kinds = new int[MOST_GATES];
        private final int[] lefts = new int[MOST_GATES];
        private final int[] rights = new int[MOST_GATES];
        private final boolean[] truths = new boolean[MOST_GATES];
        private int size = 1;
        private int inputs = 0;

        private boolean has(int gate) {
            return gate >= 0 && gate < size;
        }

        private boolean hasLiteral(int literal) {
            return literal >= 0 && has(literal >> 1);
        }

        private int add(int kind, int a, int b) {
            int gate = size;
            kinds[gate] = kind;
            if (kind == INPUT) {
                inputs++;
            } else {
                lefts[gate] = a;
                rights[gate] = b;
            }
            size++;
            return gate;
        }

        private boolean isTrueWith(int literal, long inputBits) {
            int last = literal >> 1;
            long bits = inputBits;
            for (int gate = 1; gate <= last; gate++) {
                if (kinds[gate] == INPUT) {
                    truths[gate] = (bits & 1L) != 0L;
                    bits >>>= 1;
                } else if (kinds[gate] == AND) {
                    truths[gate] = truthOf(lefts[gate]) && truthOf(rights[gate]);
                } else {
                    truths[gate] = truthOf(lefts[gate]) != truthOf(rights[gate]);
                }
            }
            return truthOf(literal);
        }

        private boolean truthOf(int literal) {
            return truths[literal >> 1] != ((literal & 1) == 1);
        }
    }

    /** The lines. One that is left out keeps its place till the others move up. */
    private static final class Proof {
        private final int[] kinds = new int[MOST_LINES];
        private final int[] sizes = new int[MOST_LINES];
        private final int[] literals = new int[MOST_LINES * MOST_LITERALS];
        private final boolean[] leftOut = new boolean[MOST_LINES];
        private int size = 0;

        private boolean has(int line) {
            return line >= 0 && line < size;
        }

        private boolean isFull() {
            return size >= MOST_LINES;
        }

        private boolean isLineFull(int line) {
            return sizes[line] >= (kinds[line] == EQUALITY ? SIDES : MOST_LITERALS);
        }

        private int add(int kind) {
            int line = size;
            kinds[line] = kind;
            sizes[line] = 0;
            size++;
            return line;
        }

        private void append(int line, int literal) {
            literals[line * MOST_LITERALS + sizes[line]] = literal;
            sizes[line]++;
        }

        private int literalOf(int line, int i) {
            return literals[line * MOST_LITERALS + i];
        }

        private boolean contains(int line, int literal) {
            for (int i = 0; i < sizes[line]; i++) {
                if (literalOf(line, i) == literal) {
                    return true;
                }
            }
            return false;
        }

        private void moveUp() {
            int kept = 0;
            for (int line = 0; line < size; line++) {
                if (!leftOut[line]) {
                    kinds[kept] = kinds[line];
                    sizes[kept] = sizes[line];
                    System.arraycopy(literals, line * MOST_LITERALS, literals, kept * MOST_LITERALS, MOST_LITERALS);
                    kept++;
                }
                leftOut[line] = false;
            }
            size = kept;
        }
    }

    /** What comes of assumed literals, by what gates are and by lines. */
    private static final class UnitSteps {
        private final Gates gates;
        private final Proof proof;
        private final int[] told = new int[MOST_GATES];
        private boolean conflict = false;
        private boolean changed = false;

        private UnitSteps(Gates gates, Proof proof) {
            this.gates = gates;
            this.proof = proof;
        }

        private boolean lineFollows(int line) {
            if (proof.kinds[line] == EQUALITY) {
                int a = proof.literalOf(line, 0);
                int b = proof.literalOf(line, 1);
                return bothConflict(a, b ^ 1, line) && bothConflict(a ^ 1, b, line);
            }
            begin();
            for (int i = 0; i < proof.sizes[line]; i++) {
                tell(proof.literalOf(line, i), IS_FALSE);
            }
            return comeToConflict(line);
        }

        private boolean literalFollows(int literal) {
            begin();
            tell(literal, IS_FALSE);
            return comeToConflict(proof.size);
        }

        private boolean bothConflict(int a, int b, int lines) {
            begin();
            tell(a, IS_TRUE);
            tell(b, IS_TRUE);
            return comeToConflict(lines);
        }

        private void begin() {
            Arrays.fill(told, UNTOLD);
            told[0] = IS_FALSE;
            conflict = false;
        }

        /** Goes on with the first so many lines till nothing more comes: whether that is a conflict. */
        private boolean comeToConflict(int lines) {
            changed = true;
            // Each round but the last one tells a gate more, so the bound is never what ends it.
            for (int round = 0; round <= MOST_GATES && changed && !conflict; round++) {
                changed = false;
                for (int gate = 1; gate < gates.size && !conflict; gate++) {
                    if (gates.kinds[gate] == AND) {
                        stepAnd(gate, gates.lefts[gate], gates.rights[gate]);
                    } else if (gates.kinds[gate] == EITHER) {
                        stepEither(gate, gates.lefts[gate], gates.rights[gate]);
                    }
                }
                for (int line = 0; line < lines && !conflict; line++) {
                    if (proof.leftOut[line]) {
                        continue;
                    }
                    if (proof.kinds[line] == EQUALITY) {
                        stepEquality(proof.literalOf(line, 0), proof.literalOf(line, 1));
                    } else {
                        stepClause(line);
                    }
                }
            }
            return conflict;
        }

        private void stepAnd(int gate, int a, int b) {
            int whole = told[gate];
            int left = toldOf(a);
            int right = toldOf(b);
            if (left == IS_FALSE || right == IS_FALSE) {
                tell(2 * gate, IS_FALSE);
            }
            if (left == IS_TRUE && right == IS_TRUE) {
                tell(2 * gate, IS_TRUE);
            }
            if (whole == IS_TRUE) {
                tell(a, IS_TRUE);
                tell(b, IS_TRUE);
            }
            if (whole == IS_FALSE && left == IS_TRUE) {
                tell(b, IS_FALSE);
            }
            if (whole == IS_FALSE && right == IS_TRUE) {
                tell(a, IS_FALSE);
            }
        }

        private void stepEither(int gate, int a, int b) {
            int whole = told[gate];
            int left = toldOf(a);
            int right = toldOf(b);
            if (left != UNTOLD && right != UNTOLD) {
                tell(2 * gate, left ^ right);
            }
            if (whole != UNTOLD && left != UNTOLD) {
                tell(b, whole ^ left);
            }
            if (whole != UNTOLD && right != UNTOLD) {
                tell(a, whole ^ right);
            }
        }

        private void stepEquality(int a, int b) {
            int left = toldOf(a);
            int right = toldOf(b);
            if (left != UNTOLD) {
                tell(b, left);
            }
            if (right != UNTOLD) {
                tell(a, right);
            }
        }

        private void stepClause(int line) {
            // No literal is in a clause twice, so equal ones need no care here.
            int open = 0;
            int lastOpen = NONE;
            for (int i = 0; i < proof.sizes[line]; i++) {
                int literal = proof.literalOf(line, i);
                if (toldOf(literal) != IS_FALSE) {
                    open++;
                    lastOpen = literal;
                }
            }
            if (open == 0) {
                conflict = true;
            } else if (open == 1) {
                tell(lastOpen, IS_TRUE);
            }
        }

        private int toldOf(int literal) {
            int truth = told[literal >> 1];
            return truth == UNTOLD ? UNTOLD : truth ^ (literal & 1);
        }

        private void tell(int literal, int truth) {
            int gate = literal >> 1;
            int gateTruth = truth ^ (literal & 1);
            if (told[gate] == UNTOLD) {
                told[gate] = gateTruth;
                changed = true;
            } else if (told[gate] != gateTruth) {
                conflict = true;
            }
        }
    }

    /** How lines are written. */
    private static final class Text {
        private static int lengthOf(Proof proof) {
            int length = 0;
            for (int line = 0; line < proof.size; line++) {
                length += lineLength(proof, line);
            }
            return length;
        }

        private static int byteOf(Proof proof, int i) {
            int rest = i;
            for (int line = 0; line < proof.size; line++) {
                int length = lineLength(proof, line);
                if (rest < length) {
                    return lineByte(proof, line, rest);
                }
                rest -= length;
            }
            return LINE_END;
        }

        private static int lineLength(Proof proof, int line) {
            int length = 2;
            for (int i = 0; i < proof.sizes[line]; i++) {
                length += literalLength(proof.literalOf(line, i));
            }
            return length;
        }

        private static int lineByte(Proof proof, int line, int i) {
            if (i == 0) {
                return proof.kinds[line] == EQUALITY ? '=' : 'c';
            }
            int rest = i - 1;
            for (int k = 0; k < proof.sizes[line]; k++) {
                int literal = proof.literalOf(line, k);
                int length = literalLength(literal);
                if (rest < length) {
                    return literalByte(literal, rest);
                }
                rest -= length;
            }
            return LINE_END;
        }

        private static int literalLength(int literal) {
            return (literal >> 1) < 10 ? 3 : 4;
        }

        private static int literalByte(int literal, int i) {
            if (i == 0) {
                return ' ';
            }
            if (i == 1) {
                return (literal & 1) == 1 ? '-' : '+';
            }
            int gate = literal >> 1;
            return '0' + (i == literalLength(literal) - 1 ? gate % 10 : gate / 10);
        }
    }

    /** The bytes that are to be read, and how they are. */
    private static final class Tape {
        private final Gates gates;
        private final Proof proof;
        private final int[] bytes = new int[MOST_BYTES];
        private int size = 0;
        private int place = 0;
        private int fault = NONE;

        private Tape(Gates gates, Proof proof) {
            this.gates = gates;
            this.proof = proof;
        }

        private boolean append(int u) {
            if (size >= MOST_BYTES) {
                return false;
            }
            bytes[size] = u & 255;
            size++;
            return true;
        }

        /** Puts the text's lines behind the others and empties the tape: the fault's place, or NONE. */
        private int readAll() {
            place = 0;
            fault = NONE;
            skipToLine();
            // Every round takes a line that there is room for, but the last one.
            for (int round = 0; round <= MOST_LINES && place < size && fault == NONE; round++) {
                readLine();
                skipToLine();
            }
            size = 0;
            return fault;
        }

        private void readLine() {
            int first = here();
            if ((first != 'c' && first != '=') || proof.isFull()) {
                fault = place;
                return;
            }
            int line = proof.add(first == '=' ? EQUALITY : CLAUSE);
            place++;
            skipBlanks();
            for (int round = 0; round < MOST_BYTES && isSignHere() && fault == NONE; round++) {
                readLiteral(line);
            }
            if (fault == NONE) {
                endLine(line);
            }
        }

        private void readLiteral(int line) {
            int start = place;
            int turned = here() == '-' ? 1 : 0;
            place++;
            skipBlanks();
            int number = readNumber();
            skipBlanks();
            if (proof.isLineFull(line) || !gates.has(number)) {
                fault = start;
                return;
            }
            int literal = 2 * number + turned;
            if (proof.kinds[line] == EQUALITY || !proof.contains(line, literal)) {
                proof.append(line, literal);
            }
        }

        /** The number, or NONE if there is no digit; what is too much for a gate stays too much. */
        private int readNumber() {
            int number = NONE;
            for (; place < size && isDigitHere(); place++) {
                number = Math.min(Math.max(number, 0) * 10 + here() - '0', MOST_GATES);
            }
            return number;
        }

        private void endLine(int line) {
            boolean isTooEarly = proof.kinds[line] == EQUALITY && !proof.isLineFull(line);
            boolean isEnd = place >= size || here() == LINE_END;
            if (isTooEarly || !isEnd) {
                fault = place;
            }
        }

        private void skipBlanks() {
            while (place < size && isBlankHere()) {
                place++;
            }
        }

        private void skipToLine() {
            while (place < size && (isBlankHere() || here() == LINE_END)) {
                place++;
            }
        }

        private boolean isBlankHere() {
            int unit = here();
            return unit == ' ' || unit == TAB || unit == RETURN;
        }

        private boolean isSignHere() {
            return here() == '+' || here() == '-';
        }

        private boolean isDigitHere() {
            return here() >= '0' && here() <= '9';
        }

        /** The byte at the place, or NONE at the end. */
        private int here() {
            return place < size ? bytes[place] : NONE;
        }
    }
}
