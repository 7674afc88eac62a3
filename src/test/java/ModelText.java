import java.math.BigInteger;
import java.util.ArrayList;
import java.util.HashMap;
import java.util.List;
import java.util.Map;
import java.util.regex.Matcher;
import java.util.regex.Pattern;

/** Reads a TEXT as the document tells it, into trees; a FAULT is thrown to the top. */
final class ModelText {
    static final class Env {
        final Map<String, Integer> names = new HashMap<>();
        final List<Integer> thicks = new ArrayList<>();
    }

    interface Sum {
        int ask(Env e);
    }

    interface Ask {
        boolean ask(Env e);
    }

    private static final class Fault extends RuntimeException {
        private static final long serialVersionUID = 1;
        final int what;

        Fault(int what) {
            this.what = what;
        }
    }

    private static final List<String> BOTH = List.of("day", "rain", "way", "long", "thick");
    private static final List<String> OF_SUCKS = List.of("mouth", "who", "went");
    private static final List<String> OF_SWELLS = List.of("first");
    private static final Pattern TOKEN = Pattern.compile("[a-zA-Z]+|[0-9]+|<=|>=|[<>=#+*/();-]");

    private final String text;
    private final List<String> tokens = new ArrayList<>();
    private final List<Integer> places = new ArrayList<>();
    private int at = 0;
    private int open = 0;
    private String law = "";

    int fault = 0;
    int place = -1;
    Sum sucks = null;
    Sum swells = null;
    final List<Object[]> clauses = new ArrayList<>();

    ModelText(String text) {
        this.text = text;
        cut();
        try {
            while (!peek().isEmpty()) {
                clause();
            }
        } catch (Fault f) {
            fault = f.what;
            place = places.get(at);
        }
    }

    private void cut() {
        int i = 0;
        while (i < text.length()) {
            if (text.charAt(i) == ' ' || text.charAt(i) == '\n') {
                i++;
                continue;
            }
            Matcher m = TOKEN.matcher(text).region(i, text.length());
            String token = m.lookingAt() ? m.group() : "?";
            tokens.add(token);
            places.add(i);
            i += token.length();
        }
        tokens.add("");
        places.add(text.length());
    }

    private String peek() {
        return tokens.get(at);
    }

    private boolean isNumber() {
        return !peek().isEmpty() && Character.isDigit(peek().charAt(0));
    }

    private void need(String token) {
        if (!peek().equals(token)) {
            throw new Fault(1);
        }
        at++;
    }

    private int number(int low, int high) {
        if (!isNumber()) {
            throw new Fault(1);
        }
        BigInteger value = new BigInteger(peek());
        if (value.compareTo(BigInteger.valueOf(low)) < 0 || value.compareTo(BigInteger.valueOf(high)) > 0) {
            throw new Fault(2);
        }
        at++;
        return value.intValue();
    }

    private void clause() {
        String first = peek();
        if (!List.of("sucks", "swells", "road", "goer", "go", "relay", "coil", "day").contains(first)) {
            throw new Fault(1);
        }
        if (first.equals("sucks") && sucks != null || first.equals("swells") && swells != null) {
            throw new Fault(4);
        }
        if (clauses.size() == 24) {
            throw new Fault(6);
        }
        at++;
        Object[] read = {first};
        if (first.equals("sucks")) {
            law = first;
            sucks = sum();
        } else if (first.equals("swells")) {
            law = first;
            swells = sum();
        } else if (first.equals("road")) {
            int a = number(0, 7);
            need("to");
            int b = number(0, 7);
            need("long");
            int length = number(1, 9);
            need("thick");
            read = new Object[] {first, a, b, length, number(1, 99)};
        } else if (first.equals("goer")) {
            int town = number(0, 7);
            need("mouth");
            read = new Object[] {first, town, number(1, 9)};
        } else if (first.equals("go")) {
            int road = number(0, 15);
            need("by");
            read = new Object[] {first, road, number(0, 5)};
        } else if (first.equals("relay")) {
            read = new Object[] {first, number(0, 15)};
        } else if (first.equals("coil")) {
            read = new Object[] {first, number(1, 99)};
        } else {
            read = new Object[] {first, number(1, 60)};
        }
        need(";");
        clauses.add(read);
    }

    private static int hold(long value) {
        return (int) Math.max(-1000000, Math.min(1000000, value));
    }

    private Sum sum() {
        Sum left = product();
        while (peek().equals("+") || peek().equals("-")) {
            boolean plus = peek().equals("+");
            at++;
            Sum a = left;
            Sum b = product();
            left = plus ? e -> hold((long) a.ask(e) + b.ask(e)) : e -> hold((long) a.ask(e) - b.ask(e));
        }
        return left;
    }

    private Sum product() {
        Sum left = one();
        while (peek().equals("*") || peek().equals("/")) {
            boolean times = peek().equals("*");
            at++;
            Sum a = left;
            Sum b = one();
            left = times ? e -> hold((long) a.ask(e) * b.ask(e)) : e -> b.ask(e) == 0 ? 0 : a.ask(e) / b.ask(e);
        }
        return left;
    }

    private void open() {
        if (open == 8) {
            throw new Fault(3);
        }
        open++;
        at++;
    }

    private Sum one() {
        if (isNumber()) {
            int value = number(0, 9999);
            return e -> value;
        }
        String first = peek();
        if (BOTH.contains(first) || OF_SUCKS.contains(first) || OF_SWELLS.contains(first)) {
            if (!BOTH.contains(first) && !(law.equals("sucks") ? OF_SUCKS : OF_SWELLS).contains(first)) {
                throw new Fault(5);
            }
            at++;
            return e -> e.names.get(first);
        }
        Sum found;
        switch (first) {
            case "(":
                open();
                found = sum();
                need(")");
                break;
            case "-":
                open();
                Sum turned = one();
                found = e -> -turned.ask(e);
                break;
            case "common":
                open();
                Sum a = one();
                need("of");
                Sum b = one();
                found = e -> BigInteger.valueOf(a.ask(e)).gcd(BigInteger.valueOf(b.ask(e))).intValueExact();
                break;
            case "roads":
                open();
                Sum which = one();
                found = e -> which.ask(e) >= 0 && which.ask(e) < e.thicks.size() ? e.thicks.get(which.ask(e)) : 0;
                break;
            case "if":
                open();
                Ask either = either();
                need("then");
                Sum yes = sum();
                need("else");
                Sum no = sum();
                need("end");
                found = e -> either.ask(e) ? yes.ask(e) : no.ask(e);
                break;
            default:
                throw new Fault(1);
        }
        open--;
        return found;
    }

    private Ask either() {
        Ask left = both();
        while (peek().equals("or")) {
            at++;
            Ask a = left;
            Ask b = both();
            left = e -> a.ask(e) | b.ask(e);
        }
        return left;
    }

    private Ask both() {
        Ask left = asking();
        while (peek().equals("and")) {
            at++;
            Ask a = left;
            Ask b = asking();
            left = e -> a.ask(e) & b.ask(e);
        }
        return left;
    }

    private Ask asking() {
        if (peek().equals("not")) {
            open();
            Ask turned = asking();
            open--;
            return e -> !turned.ask(e);
        }
        Sum a = sum();
        String sign = peek();
        if (!List.of("<", "<=", ">", ">=", "=", "#").contains(sign)) {
            throw new Fault(1);
        }
        at++;
        Sum b = sum();
        switch (sign) {
            case "<": return e -> a.ask(e) < b.ask(e);
            case "<=": return e -> a.ask(e) <= b.ask(e);
            case ">": return e -> a.ask(e) > b.ask(e);
            case ">=": return e -> a.ask(e) >= b.ask(e);
            case "=": return e -> a.ask(e) == b.ask(e);
            default: return e -> a.ask(e) != b.ask(e);
        }
    }
}
