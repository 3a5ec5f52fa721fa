/** Throws texts: most by the grammar of part 3, some with a fault in them. */
final class TextDice {
    private static final String[] NAMES = {"mark", "tries", "excused", "leans", "course", "credit", "mean", "passed"};
    private static final String[] PIECES = {
        "unless", "if", "else", "or", "and", "not", "best", "mark", "mean", "foo", "elsee", "i", "1234567", "0000001",
        "999999", "(", ")", "((((((((", "(((((((((", "<", ">", "=", "+", "-", "*", "/", " ", "  ", "A", "_", "\t", "7"
    };
    private static final String[] BEFORE = {"", "", "", "", "", "(", "not ", "-", "best "};
    private static final String[] BEHIND = {
        " unless ", " if ", " if ", " else ", " else ", " or ", " and ", "<", ">", "=", "+", "-", "*", "/", " if 1 else "
    };
    private final Dice dice;

    TextDice(Dice dice) {
        this.dice = dice;
    }

    String text() {
        StringBuilder text = new StringBuilder(dice.oneIn(4) ? loose() : value(dice.between(0, 4)));
        if (text.length() > 80) {
            text.setLength(dice.oneIn(2) ? 80 : dice.below(81));
        }
        if (dice.oneIn(3)) {
            disturb(text);
        }
        if (text.length() > 80) {
            text.setLength(80);
        }
        return text.toString();
    }

    /** Units and what may stand behind one, in turns, so that only what is open decides whether it stands. */
    private String loose() {
        StringBuilder row = new StringBuilder();
        for (int units = dice.between(1, 9); units > 0; units--) {
            row.append(BEFORE[dice.below(BEFORE.length)]).append(dice.oneIn(3) ? NAMES[dice.below(NAMES.length)] : "7");
            row.append(dice.oneIn(6) ? ")" : "").append(units > 1 ? BEHIND[dice.below(BEHIND.length)] : "");
        }
        return row.toString();
    }

    private void disturb(StringBuilder text) {
        for (int times = dice.between(1, 3); times > 0; times--) {
            int at = dice.below(text.length() + 1);
            switch (dice.below(4)) {
                case 0:
                    text.insert(at, PIECES[dice.below(PIECES.length)]);
                    break;
                case 1:
                    text.insert(at, " " + PIECES[dice.below(PIECES.length)] + " ");
                    break;
                case 2:
                    text.delete(at, Math.min(text.length(), at + dice.between(1, 4)));
                    break;
                default:
                    text.setLength(at);
                    break;
            }
        }
    }

    private String blank() {
        return dice.oneIn(8) ? "  " : dice.oneIn(3) ? "" : " ";
    }

    private String row(String[] by, String... parts) {
        StringBuilder row = new StringBuilder(parts[0]);
        for (int i = 1; i < parts.length; i++) {
            row.append(blank()).append(by[dice.below(by.length)]).append(blank()).append(parts[i]);
        }
        return row.toString();
    }

    private String word(String word) {
        return " " + word + " ";
    }

    private String value(int depth) {
        String cases = cases(depth);
        return dice.oneIn(6) ? cases + word("unless") + value(depth - 1) : cases;
    }

    private String cases(int depth) {
        String either = either(depth);
        return dice.oneIn(4) ? either + word("if") + either(depth - 1) + word("else") + cases(depth - 1) : either;
    }

    private String either(int depth) {
        String both = both(depth);
        return dice.oneIn(6) ? both + word("or") + both(depth - 1) : both;
    }

    private String both(int depth) {
        String held = held(depth);
        return dice.oneIn(5) ? held + word("and") + held(depth - 1) : held;
    }

    private String held(int depth) {
        String sum = sum(depth);
        return dice.oneIn(3) ? row(new String[] {"<", ">", "="}, sum, sum(depth - 1)) : sum;
    }

    private String sum(int depth) {
        String term = term(depth);
        return dice.oneIn(4) ? row(new String[] {"+", "-"}, term, term(depth - 1), term(depth - 1)) : term;
    }

    private String term(int depth) {
        String unit = unit(depth);
        return dice.oneIn(4) ? row(new String[] {"*", "/"}, unit, unit(depth - 1)) : unit;
    }

    private String unit(int depth) {
        switch (dice.below(depth <= 0 ? 6 : 10)) {
            case 0: case 1:
                return String.valueOf(dice.oneOf(0, 1, 2, 3, 39, 40, 50, 100, 999999, dice.below(8000)));
            case 2: case 3: case 4: case 5:
                return NAMES[dice.below(NAMES.length)];
            case 6:
                return "(" + blank() + value(depth - 1) + blank() + ")";
            case 7:
                return "not" + word("") + unit(depth - 1);
            case 8:
                return "-" + blank() + unit(depth - 1);
            default:
                return "best " + (dice.oneIn(2) ? String.valueOf(dice.below(6)) : unit(depth - 1));
        }
    }
}
