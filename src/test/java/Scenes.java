import java.util.Arrays;
import java.util.function.Consumer;
import java.util.function.Supplier;

/**
 * Objects in a known state, what all questions tell of one, and calls that it must refuse. A scene is made anew for
 * each look at it, as the document promises nothing of an object behind its 512th call.
 */
final class Scenes {
    static final int MIN = Integer.MIN_VALUE, MAX = Integer.MAX_VALUE;
    static final Class<?> IOOBE = IndexOutOfBoundsException.class;
    static final Class<?> IAE = IllegalArgumentException.class;
    static final Class<?> ISE = IllegalStateException.class;
    /** For each sort of token the least and the greatest value; LOOSE for those whose value is not looked at. */
    static final int[][] VALUES = {{0, 9}, {0, 9}, {}, {}, {' ', '~'}, {}, {0, 5}, {0, 3}, {}};
    static final int[] LOOSE = {OmitMarkup.EMPTY_START, OmitMarkup.EMPTY_END, OmitMarkup.LINE, OmitMarkup.MARK_END};

    private Scenes() { }

    /** Numbers beyond a range: next to it, further, such as a narrower type would cut into it, the least and the greatest. */
    static int[] outside(int least, int most) {
        int[] tried = {least - 1, most + 1, least - 2, most + 2, least + 256, least + 65536, least - 65536, MIN, MIN + 1, MAX - 1, MAX, MIN + least, MIN + most};
        return Arrays.stream(tried).filter(n -> n < least || n > most).distinct().toArray();
    }

    // ---- scenes

    /** Each thing that a call may change is in use: all of the grammar, entities and switches; the element 9 has 6 slots. */
    static OmitMarkup rich() {
        OmitMarkup x = new OmitMarkup();
        Notation.model(x, 0, "129D*");
        Notation.model(x, 1, "3? D*");
        Notation.model(x, 2, "D+ 4?");
        Notation.model(x, 3, "5");
        Notation.model(x, 5, "D*");
        Notation.model(x, 9, "1 1 1 1 1 1");
        x.omit(0, true, true);
        x.omit(1, true, true);
        x.omit(2, false, true);
        x.omit(3, true, false);
        x.omit(5, true, true);
        x.omit(9, false, true);
        x.except(0, 1 << 6, 0);
        x.except(1, 1 << 7, 1 << 2);
        x.except(9, 1 << 8, 1 << 3);
        Notation.entity(x, 0, "'a <1 'b");
        Notation.entity(x, 5, "'u 'v <2 'x 'y 'z");
        x.flip(1, OmitMarkup.IGNORE);
        x.flip(2, OmitMarkup.PLAIN);
        Notation.write(x, "'p <1 <3 'q >1 &0 | [2 <1 ] <2 'r <6 >5 <9 <8 'i [1 <7");
        return x;
    }

    /** A text of 60 tokens: one letter among ENTITYs of no tokens, and ENDs that end nothing. */
    static OmitMarkup sixty() {
        OmitMarkup x = new OmitMarkup();
        Notation.model(x, 0, "1D*");
        x.omit(0, true, true);
        for (int i = 0; i < 49; i++) x.insert(0, OmitMarkup.ENTITY, 4);
        for (int i = 0; i < 10; i++) x.insert(i * 6, OmitMarkup.END, 5);
        x.insert(30, OmitMarkup.DATA, 'm');
        return x;
    }

    /** A short text whose normal form has so many tokens, 2 or more: a letter if they are odd, and elements. */
    static OmitMarkup ofNormal(int tokens) {
        OmitMarkup x = new OmitMarkup();
        Notation.model(x, 0, "1D*");
        Notation.model(x, 1, "D*");
        x.omit(0, true, true);
        x.omit(1, true, true);
        Notation.entity(x, 0, "<1 <1 <1 <1 <1 <1");
        int elements = (tokens - 2) / 2;
        Notation.write(x, tokens % 2 == 1 ? "<0 'a" : "<0");
        for (int i = 0; i < elements / 6; i++) Notation.write(x, "&0");
        for (int i = 0; i < elements % 6; i++) Notation.write(x, "<1");
        return x;
    }

    /**
     * A grammar for texts of which one token stands for up to 36 things: the root has 1, 2, 3 and data, 1 has data,
     * 2 is EMPTY, 3 has one 4 and that has data, and each tag may be left out; entity 0 is 36 letters, entity 1 six,
     * entity 2 36 elements 1, one behind the other, and entity 3 six.
     */
    static OmitMarkup crowd() {
        OmitMarkup x = new OmitMarkup();
        Notation.model(x, 0, "123D*");
        Notation.model(x, 1, "D*");
        Notation.model(x, 3, "4");
        Notation.model(x, 4, "D*");
        for (int e = 0; e < 10; e++) x.omit(e, true, true);
        Notation.entity(x, 0, "&1 &1 &1 &1 &1 &1");
        Notation.entity(x, 1, "'a 'b 'c 'd 'e 'f");
        Notation.entity(x, 2, "&3 &3 &3 &3 &3 &3");
        Notation.entity(x, 3, "<1 <1 <1 <1 <1 <1");
        return x;
    }

    /** Puts letters behind the text until the tree has so many things; the text is to have made fewer. */
    static void fillUp(OmitMarkup x, int things) {
        while (things - x.things() >= 36) x.insert(x.length(), OmitMarkup.ENTITY, 0);
        while (things - x.things() >= 6) x.insert(x.length(), OmitMarkup.ENTITY, 1);
        while (things > x.things()) x.insert(x.length(), OmitMarkup.DATA, 'g');
    }

    // ---- questions

    /** What every question of the class answers. */
    static String questions(OmitMarkup x) {
        String ways;
        try {
            ways = "" + x.ways();
        } catch (IllegalStateException e) {
            ways = "refused";
        }
        return Oracle.told(x) + " same " + x.isSame() + " ways " + ways;
    }

    /**
     * What no question tells by itself, but calls behind it do: the switches, the entities and the grammar, as they
     * are read into the tree, and how many tokens and slots they have.
     */
    static String aftermath(OmitMarkup x) {
        StringBuilder b = new StringBuilder();
        x.omit(8, false, false);
        b.append(Notation.tree(x)).append(Notation.errors(x)).append(Notation.normal(x));
        for (int i = 0; i < 4; i++) b.append(" switch ").append(x.flip(i, OmitMarkup.INCLUDE));
        for (int i = 0; i < 6 && x.length() > 0; i++) x.erase(0);
        for (int i = 0; i < 6; i++) x.insert(i, OmitMarkup.ENTITY, i);
        b.append(" things ");
        for (int i = 0; i < x.things(); i++) b.append(x.kind(i)).append(x.letter(i));
        b.append(Notation.errors(x));
        for (int i = 0; i < 6; i++) b.append(" entity ").append(x.clear(i));
        for (int i = 0; i < 10; i++) b.append(" slots ").append(x.empty(i));
        return b.toString();
    }

    /** The call must throw just that class, and change nothing, neither of what questions tell nor of what they do not. */
    static void refused(Check check, String call, Class<?> due, Supplier<OmitMarkup> scene, Consumer<OmitMarkup> refusedCall) {
        OmitMarkup asked = scene.get();
        check.refused(call, due, () -> refusedCall.accept(asked));
        check.same("what questions tell behind " + call, questions(asked), questions(scene.get()));
        OmitMarkup used = scene.get();
        check.refused(call + " again", due, () -> refusedCall.accept(used));
        check.same("what comes behind " + call, aftermath(used), aftermath(scene.get()));
    }
}
