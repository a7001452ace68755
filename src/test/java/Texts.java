import java.util.ArrayList;
import java.util.HashMap;
import java.util.List;
import java.util.Map;
import java.util.Random;

/** Random texts: museums without a fault, and such as are spoilt a little. */
final class Texts {
    private static final String[] VALUES = {"kind", "letters", "word", "day", "long", "same", "rhymes"};
    private static final String[] BITS = {"state", "word", "arc", "cost", "saying", "habit", "law", "end",
        "and", "or", "not", ";", "(", ")", "+", "-", "*", "/", "<", "=", "0", "1", "7", "8", "9", "10",
        "14", "40", "99", "9999", "12345", "00003", "0007", "kind", "day", "verb", "abcdefghi",
        "abcdefghij", "\n", "\t", "A", "\u00e9", "\u0000", ","};

    private final Random random;

    Texts(Random random) {
        this.random = random;
    }

    String museum() {
        int states = 1 + random.nextInt(random.nextInt(3) == 0 ? 10 : 5);
        int words = random.nextInt(12) == 0 ? 0 : 1 + random.nextInt(random.nextInt(3) == 0 ? 14 : 6);
        int kinds = 1 + random.nextInt(random.nextInt(3) == 0 ? 8 : 4);
        List<String> lines = new ArrayList<>();
        for (int s = 0; s < states; s++) {
            lines.add(random.nextInt(4) == 0 ? "state end" : "state");
        }
        int[] kindOf = new int[words];
        for (int w = 0; w < words; w++) {
            kindOf[w] = random.nextInt(kinds);
            lines.add("word " + row(w) + " " + kindOf[w]);
        }
        Map<List<Integer>, Integer> arcs = arcs(states, kinds, lines);
        for (int k = 0; k < kinds; k++) {
            if (random.nextInt(3) == 0) {
                lines.add("cost " + k + " " + random.nextInt(random.nextInt(2) == 0 ? 3 : 10));
            }
        }
        int sayings = random.nextInt(6);
        for (int s = 0; s < sayings; s++) {
            lines.add(saying(states, kindOf, arcs));
        }
        int habits = random.nextInt(5);
        for (int h = 0; h < habits; h++) {
            lines.add("habit " + (random.nextInt(3) == 0 ? "1+letters" : expr(0)));
        }
        if (random.nextInt(2) == 0) {
            lines.add("law " + (random.nextInt(3) == 0 ? "not (day=" + random.nextInt(7) + ")" : expr(0)));
        }
        StringBuilder text = new StringBuilder();
        for (String line : lines) {
            String next = line + (random.nextInt(9) == 0 ? " ;\n" : ";");
            if (text.length() + next.length() <= 700) {
                text.append(next);
            }
        }
        return text.toString();
    }

    private Map<List<Integer>, Integer> arcs(int states, int kinds, List<String> lines) {
        Map<List<Integer>, Integer> arcs = new HashMap<>();
        int tries = states * (1 + random.nextInt(4));
        // Arcs that only lead on make sayings that end.
        boolean onward = random.nextInt(3) == 0;
        for (int t = 0; t < tries && arcs.size() < 24; t++) {
            int from = random.nextInt(states);
            int to = onward ? Math.min(states - 1, from + 1 + random.nextInt(2)) : random.nextInt(states);
            int kind = random.nextInt(kinds);
            if (!arcs.containsKey(List.of(from, kind)) && (!onward || to > from)) {
                arcs.put(List.of(from, kind), to);
                lines.add("arc " + from + " " + kind + " " + to);
            }
        }
        return arcs;
    }

    private String saying(int states, int[] kindOf, Map<List<Integer>, Integer> arcs) {
        Integer state = random.nextInt(states);
        StringBuilder line = new StringBuilder("saying " + state);
        int length = random.nextInt(random.nextInt(6) == 0 ? 41 : 7);
        for (int i = 0, tries = 0; i < length && tries < 200 && kindOf.length > 0; tries++) {
            int word = random.nextInt(kindOf.length);
            Integer to = arcs.get(List.of(state, kindOf[word]));
            if (to != null) {
                line.append(' ').append(word);
                state = to;
                i++;
            }
        }
        return line.toString();
    }

    private String row(int w) {
        StringBuilder row = new StringBuilder();
        int more = random.nextInt(random.nextInt(4) == 0 ? 9 : 3);
        for (int i = 0; i < more; i++) {
            row.append((char) ('a' + random.nextInt(4)));
        }
        // The letters from e on are the words' own, so that no two are alike.
        row.insert(random.nextInt(row.length() + 1), (char) ('e' + w));
        return row.toString();
    }

    String expr(int nested) {
        int r = random.nextInt(12);
        int deeper = nested + 1;
        if (nested >= 5 || r < 3) {
            return random.nextInt(3) > 0 ? VALUES[random.nextInt(VALUES.length)]
                    : "" + random.nextInt(random.nextInt(4) == 0 ? 10000 : 10);
        }
        return switch (r) {
            case 3 -> "(" + expr(deeper) + ")";
            case 4 -> "not " + "not ".repeat(random.nextInt(6)) + expr(deeper).replaceAll("^(not )+", "");
            case 5 -> expr(deeper) + " or " + expr(deeper);
            case 6 -> expr(deeper) + " and " + expr(deeper);
            case 7 -> "(" + expr(deeper) + ")<(" + expr(deeper) + ")";
            case 8 -> "(" + expr(deeper) + ")=(" + expr(deeper) + ")";
            case 9 -> "(" + expr(deeper) + ")" + "+-*/".charAt(random.nextInt(4)) + "(" + expr(deeper) + ")";
            case 10 -> "9999*9999*9999" + "+-*/".charAt(random.nextInt(4)) + VALUES[random.nextInt(7)];
            default -> VALUES[random.nextInt(7)] + "+-*/<=".charAt(random.nextInt(6)) + random.nextInt(5);
        };
    }

    /** Cuts, joins or changes a text at a token or two. */
    String spoil(String text) {
        String spoilt = text;
        int times = 1 + random.nextInt(2);
        for (int t = 0; t < times && !spoilt.isEmpty(); t++) {
            int at = random.nextInt(spoilt.length());
            int to = Math.min(spoilt.length(), at + random.nextInt(4));
            String bit = BITS[random.nextInt(BITS.length)];
            spoilt = switch (random.nextInt(8)) {
                case 0 -> spoilt.substring(0, at);
                case 1 -> spoilt.substring(0, at) + spoilt.substring(to);
                case 2 -> spoilt.substring(0, at) + " " + bit + " " + spoilt.substring(at);
                case 3 -> spoilt.substring(0, at) + bit + spoilt.substring(to);
                case 4 -> inPlaceOfToken(spoilt, bit);
                case 5 -> twice(spoilt);
                case 6 -> spoilt + tooMuch();
                default -> spoilt + "law " + expr(0) + ";habit " + bit + expr(0) + bit + ";";
            };
        }
        return spoilt.length() > 700 ? spoilt.substring(0, 700) : spoilt;
    }

    private String inPlaceOfToken(String text, String bit) {
        java.util.regex.Matcher m = java.util.regex.Pattern.compile("[a-z]+|[0-9]+|[^ \\n]").matcher(text);
        List<int[]> tokens = new ArrayList<>();
        while (m.find()) {
            tokens.add(new int[] {m.start(), m.end()});
        }
        if (tokens.isEmpty()) {
            return bit;
        }
        int[] token = tokens.get(random.nextInt(tokens.size()));
        return text.substring(0, token[0]) + bit + text.substring(token[1]);
    }

    private String twice(String text) {
        String[] lines = text.split(";");
        return text + (lines.length == 0 ? "" : lines[random.nextInt(lines.length)] + ";");
    }

    private String tooMuch() {
        return switch (random.nextInt(8)) {
            case 0 -> "state;".repeat(10);
            case 1 -> "word a 0;word b 0;word c 0;word d 0;word aa 0;word ab 0;word ac 0;word ad 0;word ba 0;"
                    + "word bb 0;word bc 0;word bd 0;word ca 0;word cb 0;word cc 0;";
            case 2 -> "saying 0;".repeat(6);
            case 3 -> "habit day;".repeat(5);
            case 4 -> "habit " + "(".repeat(4 + random.nextInt(4)) + BITS[random.nextInt(BITS.length)]
                    + ")".repeat(6) + ";";
            case 5 -> "habit " + "not ".repeat(5 + random.nextInt(3)) + BITS[random.nextInt(BITS.length)] + ";";
            case 6 -> "saying 0" + " 0".repeat(39 + random.nextInt(3)) + ";";
            default -> "arc 0 7 0;arc 1 7 0;arc 2 7 0;arc 0 6 0;arc 1 6 0;arc 2 6 0;arc 0 5 0;arc 1 5 0;";
        };
    }
}
