/** What several tests do with an object: put texts on its tape, and tell all that can be seen of it. */
final class Scene {
    static final int INPUT = 0;
    static final int AND = 1;
    static final int EITHER = 2;
    static final int NONE = ProofLines.NONE;

    private Scene() {
    }

    /** So many inputs: gates 1, 2, .. */
    static ProofLines withInputs(int inputs) {
        ProofLines x = new ProofLines();
        for (int i = 0; i < inputs; i++) {
            x.gate(INPUT, 0, 0);
        }
        return x;
    }

    static int clause(ProofLines x, int... literals) {
        int line = x.line();
        for (int literal : literals) {
            x.literal(line, literal);
        }
        return line;
    }

    static int read(ProofLines x, String text) {
        for (int i = 0; i < text.length(); i++) {
            x.unit(text.charAt(i));
        }
        return x.read();
    }

    static String text(ProofLines x) {
        StringBuilder out = new StringBuilder();
        for (int i = 0; i < x.count(4); i++) {
            out.append((char) x.text(i));
        }
        return out.toString();
    }

    static String lines(ProofLines x) {
        StringBuilder out = new StringBuilder();
        for (int line = 0; line < x.count(2); line++) {
            for (int i = 0; i < 2 + x.lineAt(line, 1); i++) {
                out.append(i == 0 ? "[" : " ").append(x.lineAt(line, i));
            }
            out.append(']');
        }
        return out.toString();
    }

    static String everything(ProofLines x) {
        return x.count(0) + " gates, " + x.count(1) + " inputs, " + x.count(2) + " lines " + lines(x) + ", "
                + x.count(3) + " bytes on the tape, " + x.count(4) + " bytes of text " + text(x);
    }
}
