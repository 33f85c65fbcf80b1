import java.util.ArrayList;
import java.util.List;

/** A text read a second way: all of it is cut into tokens first, and what is open is counted as it opens and ends. */
final class SaidLaw {
    /** A value by over, behind, wall, level, year, up. */
    interface E {
        int of(int[] names);
    }

    /** A token that can't stand where it stands. */
    static final class Fault extends RuntimeException {
        private static final long serialVersionUID = 1;
        final int place;

        Fault(int place) {
            this.place = place;
        }
    }

    private record Token(String said, int place) {
        boolean is(String other) {
            return said.equals(other);
        }
    }

    private static final List<String> NAMES = List.of("over", "behind", "wall", "level", "year", "up");

    private final List<Token> tokens = new ArrayList<>();
    private int next;
    private int open;

    SaidLaw(String text) {
        int i = 0;
        while (i < text.length()) {
            char c = text.charAt(i);
            int end = i + 1;
            if (isLetter(c)) {
                while (end < text.length() && isLetter(text.charAt(end))) {
                    end++;
                }
            } else if (isDigit(c)) {
                while (end < text.length() && isDigit(text.charAt(end))) {
                    end++;
                }
            }
            if (c != 32 && c != 10) {
                tokens.add(new Token(text.substring(i, end), i));
            }
            i = end;
        }
        tokens.add(new Token("", text.length()));
    }

    private static boolean isLetter(char c) {
        return "abcdefghijklmnopqrstuvwxyz".indexOf(c) >= 0;
    }

    private static boolean isDigit(char c) {
        return "0123456789".indexOf(c) >= 0;
    }

    E part(String key) {
        must(key);
        E e = or();
        must(";");
        return e;
    }

    /** The last part, with nothing behind it. */
    E last(String key) {
        E e = part(key);
        must("");
        return e;
    }

    private Token token() {
        return tokens.get(next);
    }

    private Fault fault() {
        return new Fault(token().place);
    }

    private void must(String said) {
        if (!comes(said)) {
            throw fault();
        }
    }

    private boolean comes(String said) {
        boolean is = token().is(said);
        next += is ? 1 : 0;
        return is;
    }

    private void opens(String said) {
        if (open == 5) {
            throw fault();
        }
        must(said);
        open++;
    }

    private E or() {
        E e = and();
        while (comes("or")) {
            E a = e;
            E b = and();
            e = names -> a.of(names) != 0 | b.of(names) != 0 ? 1 : 0;
        }
        return e;
    }

    private E and() {
        E e = not();
        while (comes("and")) {
            E a = e;
            E b = not();
            e = names -> a.of(names) != 0 & b.of(names) != 0 ? 1 : 0;
        }
        return e;
    }

    private E not() {
        if (token().is("not")) {
            opens("not");
            E e = not();
            open--;
            return names -> e.of(names) == 0 ? 1 : 0;
        }
        E a = sum();
        if (comes("<")) {
            E b = sum();
            return names -> a.of(names) < b.of(names) ? 1 : 0;
        }
        if (comes("=")) {
            E b = sum();
            return names -> a.of(names) == b.of(names) ? 1 : 0;
        }
        return a;
    }

    private E sum() {
        E e = term();
        while (token().is("+") || token().is("-")) {
            E a = e;
            int sign = comes("+") ? 1 : -1;
            next += sign < 0 ? 1 : 0;
            E b = term();
            e = names -> a.of(names) + sign * b.of(names);
        }
        return e;
    }

    private E term() {
        E e = one();
        while (comes("*")) {
            E a = e;
            E b = one();
            e = names -> a.of(names) * b.of(names);
        }
        return e;
    }

    private E one() {
        String said = token().said;
        if (token().is("-")) {
            opens("-");
            E e = one();
            open--;
            return names -> -e.of(names);
        }
        if (token().is("(")) {
            opens("(");
            E e = or();
            must(")");
            open--;
            return e;
        }
        if (NAMES.contains(said)) {
            next++;
            int name = NAMES.indexOf(said);
            return names -> names[name];
        }
        if (!said.isEmpty() && isDigit(said.charAt(0)) && said.length() <= 4) {
            next++;
            int number = Integer.parseInt(said);
            return names -> number;
        }
        throw fault();
    }
}
