import java.util.Random;

/** Random texts of the language, most of them whole, some spoilt in one place. */
final class TextMaker {
    private static final String[] LAWS = {"chill", "fine", "grows", "pawn"};
    private static final String[] OF_PEOPLE = {"who", "hand", "coins", "cold", "rights", "bare", "day", "frost"};
    private static final String[] OF_GLOVES = {"work", "leather", "size", "mark", "from", "by", "day", "frost"};
    private static final String[] SIGNS = {"<", "<=", ">", ">=", "=", "#"};
    private static final String[] ANY = {"chill", "fine", "grows", "pawn", "one", "owe", "do", "pass", "lose", "pledge",
        "redeem", "day", "frost", "who", "hand", "coins", "cold", "rights", "bare", "work", "leather", "size", "mark",
        "from", "by", "to", "hours", "common", "with", "lefts", "if", "then", "else", "end", "or", "and", "not", "<",
        ">", "<=", ">=", "=", "#", "+", "-", "*", "/", "(", ")", ";", "0", "7", "12", "9999", "10000", "Chill", "x",
        "!", "\t", "\u00e9", "find", "00012", "99999999999999999999"};

    private final Random random;
    private boolean ofPeople;

    TextMaker(Random random) {
        this.random = random;
    }

    String text() {
        StringBuilder text = new StringBuilder();
        int clauses = random.nextInt(20) == 0 ? 27 : random.nextInt(9);
        int laws = 0;
        for (int i = 0; i < clauses; i++) {
            int law = random.nextInt(4);
            boolean fresh = (laws >> law & 1) == 0 || random.nextInt(30) == 0;
            String clause = clauses < 10 && fresh && random.nextInt(2) == 0 ? law(law) : deed(clauses > 10);
            if (text.length() + clause.length() < 300) {
                laws |= clause.startsWith(LAWS[law]) ? 1 << law : 0;
                text.append(clause);
            }
        }
        String whole = blanks(text.toString());
        whole = random.nextInt(3) == 0 ? spoilt(whole) : whole;
        return whole.length() > 300 ? whole.substring(0, 300) : whole;
    }

    private String blanks(String text) {
        if (random.nextInt(4) != 0) {
            return text;
        }
        return text.replace(";", " ;\n").replace("+", " + ").replace("<=", " <=");
    }

    private String spoilt(String text) {
        int at = random.nextInt(text.length() + 1);
        switch (random.nextInt(4)) {
            case 0:
                return text.substring(0, at);
            case 1:
                return text.substring(0, at) + ANY[random.nextInt(ANY.length)] + text.substring(at);
            case 2:
                return text.substring(0, at) + text.substring(Math.min(text.length(), at + 1 + random.nextInt(3)));
            default:
                return token(text);
        }
    }

    /** Another token in the place of one. */
    private String token(String text) {
        String[] parts = text.split("(?<=[^a-zA-Z0-9])|(?=[^a-zA-Z0-9])");
        parts[random.nextInt(parts.length)] = ANY[random.nextInt(ANY.length)];
        return String.join(random.nextBoolean() ? "" : " ", parts);
    }

    private String deed(boolean brief) {
        switch (random.nextInt(brief ? 3 : 9)) {
            case 0: return "lose " + upTo(0, 11) + ";";
            case 1: return "day " + upTo(1, 60) + ";";
            case 2: return "redeem " + upTo(0, 11) + ";";
            case 3: return "pledge " + upTo(0, 11) + ";";
            case 4: return "one " + upTo(1, 9) + " coins " + upTo(0, 9999) + ";";
            case 5: case 6:
                return "owe " + upTo(0, 6) + " to " + upTo(0, 6) + " work " + upTo(1, 99) + " leather " + upTo(0, 2)
                    + " mark " + upTo(0, 9) + ";";
            case 7: return "do " + upTo(0, 11) + " hours " + upTo(1, 9) + ";";
            default: return "pass " + upTo(0, 11) + " to " + upTo(0, 6) + ";";
        }
    }

    private int upTo(int least, int most) {
        int way = random.nextInt(120);
        if (way == 0) {
            return most + 1;
        }
        int width = random.nextInt(3) == 0 ? most - least + 1 : Math.min(4, most - least + 1);
        return way == 1 ? Math.max(0, least - 1) : least + random.nextInt(width);
    }

    private String law(int law) {
        ofPeople = law < 2;
        return LAWS[law] + " " + sum(1 + random.nextInt(5)) + ";";
    }

    private String sum(int deep) {
        StringBuilder sum = new StringBuilder(product(deep));
        for (int i = random.nextInt(3); i > 1 && deep > 0; i--) {
            sum.append(random.nextBoolean() ? "+" : "-").append(product(deep));
        }
        return sum.toString();
    }

    private String product(int deep) {
        StringBuilder product = new StringBuilder(one(deep));
        for (int i = random.nextInt(3); i > 1 && deep > 0; i--) {
            product.append(random.nextBoolean() ? "*" : "/").append(one(deep));
        }
        return product.toString();
    }

    private String one(int deep) {
        if (random.nextInt(60) == 0) {
            return open(random.nextInt(10));
        }
        int way = deep <= 0 ? random.nextInt(2) : random.nextInt(7);
        switch (way) {
            case 0: return "" + (random.nextInt(4) == 0 ? upTo(0, 9999) : random.nextInt(12));
            case 1: return name();
            case 2: return "(" + sum(deep - 1) + ")";
            case 3: return "-" + one(deep - 1);
            case 4: return "common " + one(deep - 1) + " with " + one(deep - 1);
            case 5: return "lefts " + one(deep - 1);
            default:
                return "if " + either(deep - 1) + " then " + sum(deep - 1) + " else " + sum(deep - 1) + " end";
        }
    }

    private String open(int many) {
        StringBuilder text = new StringBuilder();
        StringBuilder closing = new StringBuilder();
        for (int i = 0; i < many; i++) {
            String[] kinds = {"(", "-", "lefts ", "common 6 with ", "if not 1<"};
            int kind = random.nextInt(5);
            text.append(kinds[kind]);
            closing.insert(0, kind == 0 ? ")" : kind == 4 ? " then 1 else 0 end" : "");
        }
        return text + "1" + closing;
    }

    private String name() {
        boolean other = random.nextInt(150) == 0;
        String[] names = ofPeople == other ? OF_GLOVES : OF_PEOPLE;
        return names[random.nextInt(names.length)];
    }

    private String either(int deep) {
        StringBuilder text = new StringBuilder(ask(deep));
        for (int i = random.nextInt(4); i > 1; i--) {
            text.append(random.nextBoolean() ? " or " : " and ").append(ask(deep));
        }
        return text.toString();
    }

    private String ask(int deep) {
        if (random.nextInt(4) == 0) {
            return "not " + ask(deep - 1);
        }
        return sum(deep - 1) + SIGNS[random.nextInt(6)] + sum(deep - 1);
    }
}
