import java.util.Random;

/** Writes random TEXTS of the document's language, whole ones and spoilt ones. */
final class Writer {
    private static final String[] NAMES = {"day", "rain", "way", "long", "thick", "thick", "mouth", "who", "went"};
    private static final String[] NAMES_OF_SWELLS = {"day", "rain", "way", "long", "thick", "first"};
    private static final String[] ANY = {"day", "rain", "way", "long", "thick", "mouth", "who", "went", "first", "sucks",
        "swells", "road", "to", "goer", "go", "by", "relay", "coil", "common", "of", "roads", "if", "then", "else", "end",
        "or", "and", "not", "<", "<=", ">", ">=", "=", "#", "+", "-", "*", "/", "(", ")", ";", "0", "9", "10000", "12345678901",
        "Sucks", "dayy", "?", "\t", "\u00e9", "\0", " ", "\n", "00007", "if 1<2 then", "not", "common", "roads", "((((", "- - -"};

    private final Random dice;

    Writer(Random dice) {
        this.dice = dice;
    }

    String text(int roads, int goers) {
        while (true) {
            StringBuilder s = new StringBuilder();
            int clauses = dice.nextInt(10) == 0 ? 20 + dice.nextInt(6) : dice.nextInt(8);
            int sucksAt = dice.nextInt(clauses + 1);
            int swellsAt = dice.nextInt(clauses + 1);
            for (int i = 0; i < clauses; i++) {
                if (i == sucksAt) {
                    s.append("sucks ").append(sum(1 + dice.nextInt(7), NAMES)).append(";");
                }
                if (i == swellsAt) {
                    s.append("swells ").append(sum(1 + dice.nextInt(7), NAMES_OF_SWELLS)).append(";");
                }
                s.append(deed(roads, goers)).append(dice.nextInt(5) == 0 ? "\n" : "");
            }
            if (s.length() <= 300) {
                return s.toString();
            }
        }
    }

    String spoilt(int roads, int goers) {
        StringBuilder s = new StringBuilder(dice.nextInt(6) == 0 ? "sucks " : text(roads, goers));
        int changes = 1 + dice.nextInt(3);
        if (dice.nextInt(6) == 0) {
            for (int i = dice.nextInt(15); i > 0; i--) {
                s.append(dice.nextBoolean() ? "(" : "-");
            }
        }
        for (int i = 0; i < changes; i++) {
            int at = dice.nextInt(s.length() + 1);
            int kind = dice.nextInt(4);
            if (kind == 0 && at < s.length()) {
                s.deleteCharAt(at);
            } else if (kind == 1) {
                s.setLength(at);
            } else if (kind == 2) {
                s.insert(at, " " + ANY[dice.nextInt(ANY.length)] + " ");
            } else {
                s.insert(at, ANY[dice.nextInt(ANY.length)]);
            }
        }
        if (dice.nextInt(5) == 0) {
            for (int i = dice.nextInt(20); i > 0; i--) {
                s.append(' ').append(ANY[dice.nextInt(ANY.length)]);
            }
        }
        s.setLength(Math.min(300, s.length()));
        return s.toString();
    }

    private String deed(int roads, int goers) {
        switch (dice.nextInt(8)) {
            case 0: return "road " + dice.nextInt(8) + " to " + dice.nextInt(8) + " long " + (1 + dice.nextInt(9)) + " thick "
                + (1 + dice.nextInt(99)) + ";";
            case 1: return "goer " + dice.nextInt(8) + " mouth " + (1 + dice.nextInt(9)) + ";";
            case 2: return "relay " + dice.nextInt(Math.max(1, roads)) + ";";
            case 3: return "coil " + (1 + dice.nextInt(99)) + ";";
            case 4: return "day " + (1 + dice.nextInt(4)) + ";";
            default: return "go " + dice.nextInt(Math.max(1, roads)) + " by " + dice.nextInt(Math.max(1, goers)) + ";";
        }
    }

    private String sum(int size, String[] names) {
        StringBuilder s = new StringBuilder(product(size, names));
        while (size > 1 && dice.nextInt(3) == 0) {
            s.append(dice.nextBoolean() ? "+" : "-").append(product(size - 1, names));
        }
        return s.toString();
    }

    private String product(int size, String[] names) {
        StringBuilder s = new StringBuilder(one(size, names));
        while (size > 1 && dice.nextInt(3) == 0) {
            s.append(dice.nextBoolean() ? "*" : "/").append(one(size - 1, names));
        }
        return s.toString();
    }

    private String one(int size, String[] names) {
        switch (size < 2 ? dice.nextInt(3) : dice.nextInt(9)) {
            case 0: return " " + dice.nextInt(dice.nextInt(6) == 0 ? 10000 : 12) + " ";
            case 1:
            case 2: return " " + names[dice.nextInt(names.length)] + " ";
            case 3: return "(" + sum(size - 1, names) + ")";
            case 4: return "-" + one(size - 1, names);
            case 5: return " common " + one(size - 1, names) + " of " + one(size - 1, names);
            case 6: return " roads " + one(size - 1, names);
            default: return " if " + either(size - 1, names) + " then " + sum(size - 1, names) + " else "
                + sum(size - 1, names) + " end ";
        }
    }

    private String either(int size, String[] names) {
        StringBuilder s = new StringBuilder(ask(size, names));
        while (dice.nextInt(3) == 0) {
            s.append(dice.nextBoolean() ? " or " : " and ").append(ask(size, names));
        }
        return s.toString();
    }

    private String ask(int size, String[] names) {
        if (size > 1 && dice.nextInt(4) == 0) {
            return " not " + ask(size - 1, names);
        }
        String[] signs = {"<", "<=", ">", ">=", "=", "#"};
        return sum(size - 1, names) + signs[dice.nextInt(6)] + sum(size - 1, names);
    }
}
