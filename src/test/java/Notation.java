/**
 * Texts, trees and errors as short strings. Tokens stand between blanks: {@code <3} START, {@code >3} END,
 * {@code <>} EMPTY_START, {@code >>} EMPTY_END, {@code 'a} DATA ({@code '_} a blank), {@code |} LINE, {@code &2} ENTITY,
 * {@code [1} MARK, {@code ]} MARK_END.
 */
final class Notation {
    private static final String[] ERRORS = {"NOT_HERE", "NOTHING", "SHORT", "OPEN", "RING", "UNMARKED", "DEEP"};

    private Notation() { }

    static int sort(String token) {
        if (token.equals("<>")) return OmitMarkup.EMPTY_START;
        if (token.equals(">>")) return OmitMarkup.EMPTY_END;
        return "<>??'|&[]".indexOf(token.charAt(0));
    }

    static int value(String token) {
        if (token.length() < 2 || token.equals("<>") || token.equals(">>")) return 0;
        if (token.charAt(0) == '\'') return token.charAt(1) == '_' ? ' ' : token.charAt(1);
        return Integer.parseInt(token.substring(1));
    }

    private static String[] tokens(String row) {
        return row.isEmpty() ? new String[0] : row.split(" ");
    }

    /** Puts tokens behind the text. */
    static void write(OmitMarkup x, String row) {
        for (String token : tokens(row)) x.insert(x.length(), sort(token), value(token));
    }

    /** Makes the row the text. */
    static void rewrite(OmitMarkup x, String row) {
        while (x.length() > 0) x.erase(x.length() - 1);
        write(x, row);
    }

    static void entity(OmitMarkup x, int entity, String row) {
        for (String token : tokens(row)) x.entity(entity, sort(token), value(token));
    }

    /** Adds slots to a model: {@code "12? D*"} is OPTIONAL of 1 and 2, STAR of data; {@code + } is PLUS, no sign ONE. */
    static void model(OmitMarkup x, int element, String slots) {
        for (String slot : slots.split(" ")) {
            int set = 0;
            boolean data = false;
            int occurrence = OmitMarkup.ONE;
            for (char c : slot.toCharArray()) {
                if (c >= '0' && c <= '9') set |= 1 << c - '0';
                if (c == 'D') data = true;
                if (c == '?') occurrence = OmitMarkup.OPTIONAL;
                if (c == '*') occurrence = OmitMarkup.STAR;
                if (c == '+') occurrence = OmitMarkup.PLUS;
            }
            int answer = x.slot(element, set, data, occurrence);
            if (answer != OmitMarkup.NONE) throw new IllegalArgumentException("slot " + slot + " was refused");
        }
    }

    /** The tree: an element as its digit, {@code +} if its start tag was put in, its things in brackets; data as its letter. */
    static String tree(OmitMarkup x) {
        int count = x.things();
        int[] parents = new int[count];
        String[] heads = new String[count];
        for (int i = 0; i < count; i++) {
            parents[i] = x.parent(i);
            int kind = x.kind(i);
            char letter = x.letter(i);
            heads[i] = kind < 10 ? kind + (x.isPutIn(i) ? "+" : "") + "(" : letter == ' ' ? "_" : "" + letter;
        }
        StringBuilder b = new StringBuilder();
        for (int i = 0; i < count; i++) {
            if (parents[i] == OmitMarkup.NONE) tree(parents, heads, i, b);
        }
        return b.toString();
    }

    private static void tree(int[] parents, String[] heads, int thing, StringBuilder b) {
        b.append(heads[thing]);
        for (int i = thing + 1; i < parents.length; i++) {
            if (parents[i] == thing) tree(parents, heads, i, b);
        }
        b.append(heads[thing].endsWith("(") && heads[thing].length() > 1 ? ")" : "");
    }

    static String errors(OmitMarkup x) {
        StringBuilder b = new StringBuilder();
        for (int i = 0; i < x.errors(); i++) {
            b.append(i > 0 ? " " : "").append(ERRORS[x.errorKind(i)]).append('@').append(x.errorAt(i));
        }
        return b.toString();
    }

    static String normal(OmitMarkup x) {
        StringBuilder b = new StringBuilder();
        for (int i = 0; i < x.normal(); i++) {
            int sort = x.normalSort(i);
            int value = x.normalValue(i);
            b.append(i > 0 ? " " : "");
            if (sort == OmitMarkup.DATA) b.append('\'').append(value == ' ' ? '_' : (char) value);
            else b.append(sort == OmitMarkup.START ? '<' : sort == OmitMarkup.END ? '>' : '?').append(value);
        }
        return b.toString();
    }

    /** The places of all things. */
    static String places(OmitMarkup x) {
        StringBuilder b = new StringBuilder();
        for (int i = 0; i < x.things(); i++) b.append(i > 0 ? " " : "").append(x.placeOf(i));
        return b.toString();
    }
}
