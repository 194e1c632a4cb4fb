import java.util.ArrayList;
import java.util.List;
import java.util.Map;

/** Rules of the union as a tree, read from a list of tokens: the second program's way. */
final class RuleModel {
    static final List<String> VALUES = List.of("guests", "nights", "young", "miles", "people", "common", "turn",
            "since", "age", "visits", "year");

    static final class Fault extends Exception {
        private static final long serialVersionUID = 1;
        final int kind;
        final int place;

        Fault(int kind, int place) {
            super("fault");
            this.kind = kind;
            this.place = place;
        }
    }

    interface Tree {
        long worth(Map<String, Long> values);
    }

    private record Token(String text, int place) {
        boolean isWord() {
            return !text.isEmpty() && text.charAt(0) >= 'a' && text.charAt(0) <= 'z';
        }

        boolean isNumber() {
            return !text.isEmpty() && text.charAt(0) >= '0' && text.charAt(0) <= '9';
        }
    }

    final List<Tree> grants = new ArrayList<>();
    final List<Tree> sleeps = new ArrayList<>();
    long pot = 100000;
    long rate = 20;
    int told = 0;

    private final List<Token> tokens = new ArrayList<>();
    private int at = 0;

    RuleModel(String text) throws Fault {
        split(text);
        int clauses = 0;
        while (!peek().text.isEmpty()) {
            Token first = take();
            if (!List.of("grant", "sleep", "pot", "rate").contains(first.text)) {
                throw new Fault(1, first.place);
            }
            if (++clauses > 12) {
                throw new Fault(2, first.place);
            }
            if (first.text.equals("grant")) {
                grants.add(formula());
            } else if (first.text.equals("sleep")) {
                sleeps.add(formula());
            } else if (first.text.equals("pot")) {
                pot = number();
            } else {
                rate = number();
            }
            sign(";");
        }
    }

    private void split(String text) {
        int i = 0;
        while (i < text.length()) {
            int from = i;
            char c = text.charAt(i++);
            if (c == 32 || c == 10) {
                continue;
            }
            String row = Character.toString(c);
            if (row.matches("[a-z]")) {
                while (i < text.length() && Character.toString(text.charAt(i)).matches("[a-z]")) {
                    i++;
                }
            } else if (row.matches("[0-9]")) {
                while (i < text.length() && Character.toString(text.charAt(i)).matches("[0-9]")) {
                    i++;
                }
            }
            tokens.add(new Token(text.substring(from, i), from));
        }
        tokens.add(new Token("", text.length()));
    }

    private Token peek() {
        return tokens.get(at);
    }

    private Token take() {
        Token token = tokens.get(at);
        if (!token.text.isEmpty()) {
            at++;
        }
        return token;
    }

    private boolean takeIf(String text) {
        boolean is = peek().text.equals(text);
        if (is) {
            at++;
        }
        return is;
    }

    private void sign(String text) throws Fault {
        Token token = take();
        if (!token.text.equals(text)) {
            throw new Fault(1, token.place);
        }
    }

    private long number() throws Fault {
        Token token = take();
        if (!token.isNumber()) {
            throw new Fault(1, token.place);
        }
        if (token.text.length() > 6) {
            throw new Fault(2, token.place);
        }
        return Long.parseLong(token.text);
    }

    private Tree formula() throws Fault {
        Tree first = expression(0);
        if (!takeIf("unless")) {
            return first;
        }
        Tree second = expression(0);
        return v -> second.worth(v) != 0 ? 0 : first.worth(v);
    }

    private Tree expression(int others) throws Fault {
        if (others == 6) {
            Token token = peek();
            boolean could = token.isNumber() || token.isWord() || token.text.equals("(");
            throw new Fault(could ? 2 : 1, token.place);
        }
        Tree left = conjunction(others);
        while (takeIf("or")) {
            Tree a = left;
            Tree b = conjunction(others);
            left = v -> a.worth(v) != 0 | b.worth(v) != 0 ? 1 : 0;
        }
        return left;
    }

    private Tree conjunction(int others) throws Fault {
        Tree left = negation(others, 0);
        while (takeIf("and")) {
            Tree a = left;
            Tree b = negation(others, 0);
            left = v -> a.worth(v) != 0 & b.worth(v) != 0 ? 1 : 0;
        }
        return left;
    }

    private Tree negation(int others, int nots) throws Fault {
        Token token = peek();
        if (takeIf("not")) {
            if (nots == 6) {
                throw new Fault(2, token.place);
            }
            Tree of = negation(others, nots + 1);
            return v -> of.worth(v) == 0 ? 1 : 0;
        }
        Tree a = sum(others);
        if (takeIf("<")) {
            Tree b = sum(others);
            return v -> a.worth(v) < b.worth(v) ? 1 : 0;
        }
        if (takeIf("=")) {
            Tree b = sum(others);
            return v -> a.worth(v) == b.worth(v) ? 1 : 0;
        }
        return a;
    }

    private Tree sum(int others) throws Fault {
        Tree left = product(others);
        while (true) {
            Tree a = left;
            if (takeIf("+")) {
                Tree b = product(others);
                left = v -> a.worth(v) + b.worth(v);
            } else if (takeIf("-")) {
                Tree b = product(others);
                left = v -> a.worth(v) - b.worth(v);
            } else {
                return left;
            }
        }
    }

    private Tree product(int others) throws Fault {
        Tree left = part(others);
        while (true) {
            Tree a = left;
            if (takeIf("*")) {
                Tree b = part(others);
                left = v -> a.worth(v) * b.worth(v);
            } else if (takeIf("/")) {
                Tree b = part(others);
                left = v -> b.worth(v) == 0 ? 0 : a.worth(v) / b.worth(v);
            } else {
                return left;
            }
        }
    }

    private Tree part(int others) throws Fault {
        Token token = peek();
        if (token.isWord()) {
            if (!VALUES.contains(token.text)) {
                throw new Fault(3, token.place);
            }
            at++;
            return v -> v.get(token.text);
        }
        if (takeIf("(")) {
            Tree inside = expression(others + 1);
            sign(")");
            return inside;
        }
        long number = number();
        return v -> number;
    }
}
