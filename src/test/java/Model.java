import java.math.BigInteger;
import java.util.ArrayList;
import java.util.HashSet;
import java.util.List;
import java.util.Set;
import java.util.regex.Matcher;
import java.util.regex.Pattern;

/**
 * The document once more, in another way: unit steps on sets of true literals that go on behind a conflict, texts by
 * patterns, and lines left out by making the proof anew.
 */
final class Model {
    private static final Pattern BETWEEN = Pattern.compile("[\\t\\r \\n]*");
    private static final Pattern LITERAL = Pattern.compile("[\\t\\r ]*([+-])[\\t\\r ]*([0-9]*)");
    private static final Pattern LINE_END = Pattern.compile("[\\t\\r ]*(\\n|\\z)?");

    /** A line: an equality or a clause. */
    static final class Line {
        final boolean isEquality;
        final List<Integer> literals = new ArrayList<>();

        Line(boolean isEquality) {
            this.isEquality = isEquality;
        }
    }

    final List<int[]> gates = new ArrayList<>();
    List<Line> lines = new ArrayList<>();
    String tape = "";

    Model() {
        gates.add(new int[] {-1, 0, 0});
    }

    private void needLiteral(int literal) {
        if (literal < 0 || literal >= 2 * gates.size()) {
            throw new IndexOutOfBoundsException();
        }
    }

    private void needPlace(int place, int size) {
        if (place < 0 || place >= size) {
            throw new IndexOutOfBoundsException();
        }
    }

    private void needRoom(int size, int most) {
        if (size >= most) {
            throw new UnsupportedOperationException();
        }
    }

    int gate(int kind, int a, int b) {
        if (kind != 0) {
            needLiteral(a);
            needLiteral(b);
        }
        if (kind < 0 || kind > 2) {
            throw new IllegalArgumentException();
        }
        needRoom(gates.size(), 40);
        gates.add(new int[] {kind, a, b});
        return gates.size() - 1;
    }

    int line() {
        needRoom(lines.size(), 24);
        lines.add(new Line(false));
        return lines.size() - 1;
    }

    boolean literal(int line, int literal) {
        needPlace(line, lines.size());
        needLiteral(literal);
        Line to = lines.get(line);
        if (to.isEquality) {
            throw new IllegalArgumentException();
        }
        if (to.literals.contains(literal)) {
            return false;
        }
        needRoom(to.literals.size(), 6);
        return to.literals.add(literal);
    }

    int equalLine(int a, int b) {
        needLiteral(a);
        needLiteral(b);
        needRoom(lines.size(), 24);
        Line line = new Line(true);
        line.literals.add(a);
        line.literals.add(b);
        lines.add(line);
        return lines.size() - 1;
    }

    int check(int claim) {
        needLiteral(claim);
        return checkOf(lines, claim);
    }

    private int checkOf(List<Line> proof, int claim) {
        for (int i = 0; i < proof.size(); i++) {
            if (!follows(proof.get(i), proof.subList(0, i))) {
                return 1 + i;
            }
        }
        Line last = new Line(false);
        last.literals.add(claim);
        return follows(last, proof) ? 0 : 1 + proof.size();
    }

    boolean good(int line) {
        needPlace(line, lines.size());
        return follows(lines.get(line), lines.subList(0, line));
    }

    boolean follows(Line line, List<Line> from) {
        if (line.isEquality) {
            int a = line.literals.get(0);
            int b = line.literals.get(1);
            return isConflict(closure(from, List.of(a, b ^ 1)), from)
                    && isConflict(closure(from, List.of(a ^ 1, b)), from);
        }
        List<Integer> turned = new ArrayList<>();
        for (int literal : line.literals) {
            turned.add(literal ^ 1);
        }
        return isConflict(closure(from, turned), from);
    }

    int lineAt(int line, int i) {
        needPlace(line, lines.size());
        Line of = lines.get(line);
        needPlace(i, 2 + of.literals.size());
        if (i < 2) {
            return i == 1 ? of.literals.size() : of.isEquality ? 1 : 0;
        }
        return of.literals.get(i - 2);
    }

    int implied(int a, int b, int c, int gate) {
        List<Integer> assumed = new ArrayList<>();
        for (int literal : new int[] {a, b, c}) {
            if (literal != -1) {
                needLiteral(literal);
                assumed.add(literal);
            }
        }
        needPlace(gate, gates.size());
        Set<Integer> truths = closure(lines, assumed);
        if (isConflict(truths, lines)) {
            return 3;
        }
        return truths.contains(2 * gate) ? 1 : truths.contains(2 * gate + 1) ? 0 : 2;
    }

    int shorten(int claim) {
        needLiteral(claim);
        if (checkOf(lines, claim) != 0) {
            return -1;
        }
        List<Line> left = new ArrayList<>(lines);
        for (int i = left.size() - 1; i >= 0; i--) {
            List<Line> without = new ArrayList<>(left);
            without.remove(i);
            if (checkOf(without, claim) == 0) {
                left = without;
            }
        }
        lines = left;
        return lines.size();
    }

    boolean holds(int literal, long inputs) {
        needLiteral(literal);
        return isTrue(literal, inputs);
    }

    private boolean isTrue(int literal, long inputs) {
        int[] gate = gates.get(literal / 2);
        boolean isTurned = literal % 2 == 1;
        switch (gate[0]) {
            case 0:
                int before = (int) gates.subList(0, literal / 2).stream().filter(g -> g[0] == 0).count();
                return BigInteger.valueOf(inputs).testBit(before) != isTurned;
            case 1:
                return (isTrue(gate[1], inputs) && isTrue(gate[2], inputs)) != isTurned;
            case 2:
                return (isTrue(gate[1], inputs) != isTrue(gate[2], inputs)) != isTurned;
            default:
                return isTurned;
        }
    }

    String wholeText() {
        StringBuilder out = new StringBuilder();
        for (Line line : lines) {
            out.append(line.isEquality ? '=' : 'c');
            for (int literal : line.literals) {
                out.append(' ').append(literal % 2 == 1 ? '-' : '+').append(literal / 2);
            }
            out.append('\n');
        }
        return out.toString();
    }

    int text(int i) {
        String text = wholeText();
        needPlace(i, text.length());
        return text.charAt(i);
    }

    boolean unit(int u) {
        if (tape.length() == 1000) {
            return false;
        }
        tape += (char) (u & 255);
        return true;
    }

    int read() {
        List<Line> all = new ArrayList<>(lines);
        int fault = faultOf(tape, all);
        tape = "";
        if (fault >= 0) {
            return -1 - fault;
        }
        lines = all;
        return lines.size();
    }

    private int faultOf(String text, List<Line> all) {
        int place = endOf(BETWEEN, text, 0);
        while (place < text.length()) {
            char first = text.charAt(place);
            if ("c=".indexOf(first) < 0 || all.size() == 24) {
                return place;
            }
            Line line = new Line(first == '=');
            all.add(line);
            place++;
            Matcher literal = LITERAL.matcher(text);
            while (literal.region(place, text.length()).lookingAt()) {
                String digits = literal.group(2);
                boolean isFull = line.literals.size() == (line.isEquality ? 2 : 6);
                if (isFull || digits.isEmpty()
                        || new BigInteger(digits).compareTo(BigInteger.valueOf(gates.size())) >= 0) {
                    return literal.start(1);
                }
                int read = 2 * new BigInteger(digits).intValue() + (literal.group(1).equals("-") ? 1 : 0);
                if (line.isEquality || !line.literals.contains(read)) {
                    line.literals.add(read);
                }
                place = literal.end();
            }
            Matcher end = LINE_END.matcher(text).region(place, text.length());
            end.lookingAt();
            if (end.group(1) == null) {
                return end.end();
            }
            if (line.isEquality && line.literals.size() < 2) {
                return end.start(1);
            }
            place = endOf(BETWEEN, text, end.end());
        }
        return -1;
    }

    private static int endOf(Pattern pattern, String text, int from) {
        Matcher matcher = pattern.matcher(text).region(from, text.length());
        return matcher.lookingAt() ? matcher.end() : from;
    }

    int count(int what) {
        needPlace(what, 5);
        int inputs = (int) gates.stream().filter(g -> g[0] == 0).count();
        return new int[] {gates.size(), inputs, lines.size(), tape.length(), wholeText().length()}[what];
    }

    void clear() {
        lines = new ArrayList<>();
    }

    /** All literals that come to be true, on both sides of a conflict too. */
    private Set<Integer> closure(List<Line> from, List<Integer> assumed) {
        Set<Integer> truths = new HashSet<>(assumed);
        truths.add(1);
        int before = -1;
        while (before < truths.size()) {
            before = truths.size();
            for (Line line : from) {
                addOfLine(line, truths);
            }
            for (int gate = gates.size() - 1; gate > 0; gate--) {
                addOfGate(2 * gate, gates.get(gate), truths);
            }
        }
        return truths;
    }

    private static void addIf(Set<Integer> truths, int literal, int... due) {
        for (int one : due) {
            if (!truths.contains(one)) {
                return;
            }
        }
        truths.add(literal);
    }

    private static void addOfGate(int out, int[] gate, Set<Integer> truths) {
        int a = gate[1];
        int b = gate[2];
        if (gate[0] == 1) {
            addIf(truths, out ^ 1, a ^ 1);
            addIf(truths, out ^ 1, b ^ 1);
            addIf(truths, out, a, b);
            addIf(truths, a, out);
            addIf(truths, b, out);
            addIf(truths, b ^ 1, out ^ 1, a);
            addIf(truths, a ^ 1, out ^ 1, b);
        } else if (gate[0] == 2) {
            int[] three = {out, a, b};
            for (int told = 0; told < 3; told++) {
                int p = three[(told + 1) % 3];
                int q = three[(told + 2) % 3];
                addIf(truths, three[told] ^ 1, p, q);
                addIf(truths, three[told] ^ 1, p ^ 1, q ^ 1);
                addIf(truths, three[told], p ^ 1, q);
                addIf(truths, three[told], p, q ^ 1);
            }
        }
    }

    private static void addOfLine(Line line, Set<Integer> truths) {
        if (line.isEquality) {
            int a = line.literals.get(0);
            int b = line.literals.get(1);
            addIf(truths, b, a);
            addIf(truths, b ^ 1, a ^ 1);
            addIf(truths, a, b);
            addIf(truths, a ^ 1, b ^ 1);
            return;
        }
        for (int literal : line.literals) {
            addIf(truths, literal,
                    line.literals.stream().filter(other -> other != literal).mapToInt(other -> other ^ 1).toArray());
        }
    }

    private static boolean isConflict(Set<Integer> truths, List<Line> from) {
        for (int literal : truths) {
            if (truths.contains(literal ^ 1)) {
                return true;
            }
        }
        for (Line line : from) {
            if (!line.isEquality && line.literals.stream().allMatch(literal -> truths.contains(literal ^ 1))) {
                return true;
            }
        }
        return false;
    }
}
