import java.math.BigInteger;
import java.util.ArrayList;
import java.util.HashMap;
import java.util.List;
import java.util.Map;
import java.util.Set;
import java.util.regex.Matcher;
import java.util.regex.Pattern;

/** The language of the document a second time: all tokens first, then closures, a fault being thrown. */
final class ModelText {
    static final class Fault extends RuntimeException {
        private static final long serialVersionUID = 1;
        final int why;
        final int place;

        Fault(int why, int place) {
            this.why = why;
            this.place = place;
        }
    }

    interface Sum {
        long eval(Model.Core core, int whom);
    }

    interface Ask {
        boolean eval(Model.Core core, int whom);
    }

    private static final Pattern TOKEN = Pattern.compile("[a-zA-Z]+|[0-9]+|<=|>=|[<>=#+*/();-]|[^ \n]");
    private static final Set<String> EVERYWHERE = Set.of("day", "frost");
    private static final Set<String> OF_PEOPLE = Set.of("who", "hand", "coins", "cold", "rights", "bare");
    private static final Set<String> OF_GLOVES = Set.of("work", "leather", "size", "mark", "from", "by");
    private static final Map<String, String> FORMS = Map.of(
        "one", "1-9 coins 0-9999", "owe", "0-6 to 0-6 work 1-99 leather 0-2 mark 0-9", "do", "0-11 hours 1-9",
        "pass", "0-11 to 0-6", "lose", "0-11", "pledge", "0-11", "redeem", "0-11", "day", "1-60");

    final Map<String, Sum> laws = new HashMap<>();
    final List<Object[]> clauses = new ArrayList<>();
    private final List<String> tokens = new ArrayList<>();
    private final List<Integer> places = new ArrayList<>();
    private int at;
    private int open;
    private Set<String> names;

    ModelText(String signs) {
        Matcher m = TOKEN.matcher(signs);
        while (m.find()) {
            tokens.add(m.group());
            places.add(m.start());
        }
        tokens.add("");
        places.add(signs.length());
        while (!tokens.get(at).isEmpty()) {
            clause();
        }
    }

    private String now() {
        return tokens.get(at);
    }

    private Fault wrong(int why) {
        return new Fault(why, places.get(at));
    }

    private void skip(String token) {
        if (!now().equals(token)) {
            throw wrong(1);
        }
        at++;
    }

    private int number(int least, int most) {
        if (now().isEmpty() || !Character.isDigit(now().charAt(0))) {
            throw wrong(1);
        }
        BigInteger n = new BigInteger(now());
        if (n.bitLength() > 20 || n.intValue() < least || n.intValue() > most) {
            throw wrong(2);
        }
        at++;
        return n.intValue();
    }

    private void clause() {
        String kind = now();
        boolean law = Set.of("chill", "fine", "grows", "pawn").contains(kind);
        if (!law && !FORMS.containsKey(kind)) {
            throw wrong(1);
        }
        if (laws.containsKey(kind)) {
            throw wrong(4);
        }
        if (clauses.size() == 24) {
            throw wrong(6);
        }
        at++;
        List<Object> clause = new ArrayList<>(List.of(kind));
        if (law) {
            names = kind.equals("chill") || kind.equals("fine") ? OF_PEOPLE : OF_GLOVES;
            laws.put(kind, sum());
        } else {
            for (String part : FORMS.get(kind).split(" ")) {
                if (part.contains("-")) {
                    String[] ends = part.split("-");
                    clause.add(number(Integer.parseInt(ends[0]), Integer.parseInt(ends[1])));
                } else {
                    skip(part);
                }
            }
        }
        skip(";");
        clauses.add(clause.toArray());
    }

    private static long bound(long value) {
        return Math.max(-1000000, Math.min(1000000, value));
    }

    private Sum sum() {
        Sum left = product();
        while (now().equals("+") || now().equals("-")) {
            int sign = now().equals("+") ? 1 : -1;
            at++;
            Sum a = left;
            Sum b = product();
            left = (c, w) -> bound(a.eval(c, w) + sign * b.eval(c, w));
        }
        return left;
    }

    private Sum product() {
        Sum left = one();
        while (now().equals("*") || now().equals("/")) {
            boolean times = now().equals("*");
            at++;
            Sum a = left;
            Sum b = one();
            left = times ? (c, w) -> bound(a.eval(c, w) * b.eval(c, w))
                : (c, w) -> b.eval(c, w) == 0 ? 0 : a.eval(c, w) / b.eval(c, w);
        }
        return left;
    }

    private void opening() {
        if (open == 8) {
            throw wrong(3);
        }
        open++;
        at++;
    }

    private static long divides(long a, long b) {
        return BigInteger.valueOf(a).gcd(BigInteger.valueOf(b)).longValue();
    }

    private Sum one() {
        String token = now();
        if (!token.isEmpty() && Character.isDigit(token.charAt(0))) {
            int n = number(0, 9999);
            return (c, w) -> n;
        }
        if (EVERYWHERE.contains(token) || OF_PEOPLE.contains(token) || OF_GLOVES.contains(token)) {
            if (!EVERYWHERE.contains(token) && !names.contains(token)) {
                throw wrong(5);
            }
            at++;
            return (c, w) -> named(c, token, w);
        }
        if (!Set.of("(", "-", "common", "lefts", "if").contains(token)) {
            throw wrong(1);
        }
        opening();
        Sum whole = opened(token);
        open--;
        return whole;
    }

    private Sum opened(String token) {
        if (token.equals("(")) {
            Sum inner = sum();
            skip(")");
            return inner;
        }
        if (token.equals("if")) {
            Ask either = either();
            skip("then");
            Sum yes = sum();
            skip("else");
            Sum no = sum();
            skip("end");
            return (c, w) -> either.eval(c, w) ? yes.eval(c, w) : no.eval(c, w);
        }
        Sum a = one();
        if (token.equals("common")) {
            skip("with");
            Sum b = one();
            return (c, w) -> divides(a.eval(c, w), b.eval(c, w));
        }
        return token.equals("-") ? (c, w) -> -a.eval(c, w) : (c, w) -> c.lefts((int) a.eval(c, w));
    }

    private Ask either() {
        Ask left = both();
        while (now().equals("or")) {
            at++;
            Ask a = left;
            Ask b = both();
            left = (c, w) -> a.eval(c, w) || b.eval(c, w);
        }
        return left;
    }

    private Ask both() {
        Ask left = ask();
        while (now().equals("and")) {
            at++;
            Ask a = left;
            Ask b = ask();
            left = (c, w) -> a.eval(c, w) && b.eval(c, w);
        }
        return left;
    }

    private Ask ask() {
        if (now().equals("not")) {
            opening();
            Ask inner = ask();
            open--;
            return (c, w) -> !inner.eval(c, w);
        }
        Sum a = sum();
        String sign = now();
        if (!Set.of("<", "<=", ">", ">=", "=", "#").contains(sign)) {
            throw wrong(1);
        }
        at++;
        Sum b = sum();
        return (c, w) -> {
            int way = Long.compare(a.eval(c, w), b.eval(c, w));
            switch (sign) {
                case "<": return way < 0;
                case "<=": return way <= 0;
                case ">": return way > 0;
                case ">=": return way >= 0;
                case "=": return way == 0;
                default: return way != 0;
            }
        };
    }

    private static long named(Model.Core c, String name, int w) {
        switch (name) {
            case "day": return c.day;
            case "frost": return c.frost;
            case "who": return w;
            case "hand": return c.people.get(w).hand;
            case "coins": return c.people.get(w).coins;
            case "cold": return c.people.get(w).cold;
            case "rights": return c.rights(w);
            case "bare": return Math.max(0, 2 - (c.lefts(w) + c.rights(w)));
            case "work": return c.gloves.get(w).work;
            case "leather": return c.gloves.get(w).leather;
            case "size": return c.gloves.get(w).size;
            case "mark": return c.gloves.get(w).mark;
            case "from": return c.gloves.get(w).from;
            default: return c.gloves.get(w).by;
        }
    }
}
