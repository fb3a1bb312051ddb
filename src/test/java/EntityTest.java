/** Promises 6 to 8: entities and switches, and what the ENTITY and MARK tokens do. */
final class EntityTest {
    private static final Check CHECK = new Check("EntityTest");
    private static final Class<?> IOOBE = IndexOutOfBoundsException.class;
    private static final Class<?> IAE = IllegalArgumentException.class;
    private static final Class<?> ISE = IllegalStateException.class;

    private EntityTest() { }

    public static void main(String[] args) {
        entityCall();
        entityArguments();
        clears();
        flips();
        rings();
        rowsEndMarks();
        marksOfTheText();
        plainLetters();
        ignoredMarksCount();
        mostErrors();
        CHECK.end();
    }

    private static OmitMarkup anyData() {
        OmitMarkup x = new OmitMarkup();
        Notation.model(x, 0, "1D*");
        Notation.model(x, 1, "D*");
        x.omit(0, true, true);
        x.omit(1, true, true);
        return x;
    }

    private static void entityCall() {
        OmitMarkup x = anyData();
        Notation.write(x, "<0 &2 'z");
        CHECK.same("an empty entity", Notation.tree(x), "0(z)");
        CHECK.same("the first token", x.entity(2, OmitMarkup.DATA, 'a'), 1);
        CHECK.same("all was read anew", x.anew(), 3);
        CHECK.same("the tree has it", Notation.tree(x), "0(az)");
        CHECK.same("the second token stands behind", x.entity(2, OmitMarkup.START, 1), 2);
        CHECK.same("an element that goes on behind the entity", Notation.tree(x), "0(a1(z))");
        CHECK.same("places are that of the ENTITY", Notation.places(x), "0 1 1 2");
        for (int i = 3; i <= 6; i++) {
            CHECK.same("up to six", x.entity(2, OmitMarkup.EMPTY_END, -77), i);
        }
        CHECK.same("an end tag too many", Notation.errors(x), "NOTHING@1 NOTHING@1 NOT_HERE@2");
        CHECK.refused("a seventh token", ISE, () -> x.entity(2, OmitMarkup.DATA, 'a'));
        CHECK.refused("a seventh token of no sort", IAE, () -> x.entity(2, 9, 'a'));
        CHECK.same("other entities are empty", x.clear(1), 0);
        CHECK.same("it has six", x.clear(2), 6);
    }

    private static void entityArguments() {
        OmitMarkup x = anyData();
        Notation.write(x, "'a 'b");
        CHECK.refused("entity(-1)", IOOBE, () -> x.entity(-1, 9, 0));
        CHECK.refused("entity(6)", IOOBE, () -> x.entity(6, 0, 0));
        CHECK.refused("sort -1", IAE, () -> x.entity(0, -1, 0));
        CHECK.refused("sort 9", IAE, () -> x.entity(0, 9, 0));
        int[][] wrong = {{0, -1}, {0, 10}, {1, -1}, {1, 10}, {4, 31}, {4, 127}, {6, -1}, {6, 6}, {7, -1}, {7, 4}};
        for (int[] w : wrong) {
            CHECK.refused("token " + w[0] + " " + w[1], IAE, () -> x.entity(0, w[0], w[1]));
        }
        CHECK.same("nothing was read", x.anew(), 1);
        int[][] right = {{0, 0}, {0, 9}, {1, 0}, {1, 9}, {4, 32}, {4, 126}};
        for (int i = 0; i < 6; i++) {
            CHECK.same("a token in range", x.entity(0, right[i][0], right[i][1]), i + 1);
        }
        int[][] more = {{6, 0}, {6, 5}, {7, 0}, {7, 3}, {2, -5}, {5, 1000}};
        for (int i = 0; i < 6; i++) {
            CHECK.same("a token in range", x.entity(5, more[i][0], more[i][1]), i + 1);
        }
        CHECK.same("EMPTY_END with any value", x.entity(4, 3, Integer.MIN_VALUE), 1);
        CHECK.same("MARK_END with any value", x.entity(4, 8, Integer.MAX_VALUE), 2);
    }

    private static void clears() {
        OmitMarkup x = anyData();
        Notation.entity(x, 0, "'a 'b");
        Notation.write(x, "<0 &0 &0");
        CHECK.same("ahead", Notation.tree(x), "0(abab)");
        CHECK.same("clear(0)", x.clear(0), 2);
        CHECK.same("behind", Notation.tree(x), "0()");
        CHECK.same("all was read anew", x.anew(), 3);
        x.insert(3, OmitMarkup.DATA, 'c');
        CHECK.same("clear(0) again", x.clear(0), 0);
        CHECK.same("all was read anew again", x.anew(), 4);
        CHECK.same("it fills from the front", x.entity(0, OmitMarkup.DATA, 'd'), 1);
        CHECK.same("filled", Notation.tree(x), "0(ddc)");
        CHECK.refused("clear(-1)", IOOBE, () -> x.clear(-1));
        CHECK.refused("clear(6)", IOOBE, () -> x.clear(6));
    }

    private static void flips() {
        OmitMarkup x = anyData();
        Notation.write(x, "<0 [3 'a ] 'b");
        CHECK.same("INCLUDE", Notation.tree(x), "0(ab)");
        CHECK.same("flip to IGNORE", x.flip(3, OmitMarkup.IGNORE), OmitMarkup.INCLUDE);
        CHECK.same("all was read anew", x.anew(), 5);
        CHECK.same("IGNORE", Notation.tree(x), "0(b)");
        CHECK.same("flip to PLAIN", x.flip(3, OmitMarkup.PLAIN), OmitMarkup.IGNORE);
        CHECK.same("PLAIN", Notation.tree(x), "0(ab)");
        x.erase(4);
        CHECK.same("flip to what it is", x.flip(3, OmitMarkup.PLAIN), OmitMarkup.PLAIN);
        CHECK.same("all was read anew again", x.anew(), 4);
        CHECK.same("flip back", x.flip(3, OmitMarkup.INCLUDE), OmitMarkup.PLAIN);
        CHECK.refused("flip(-1)", IOOBE, () -> x.flip(-1, 0));
        CHECK.refused("flip(4)", IOOBE, () -> x.flip(4, 3));
        CHECK.refused("to -1", IAE, () -> x.flip(0, -1));
        CHECK.refused("to 3", IAE, () -> x.flip(0, 3));
        CHECK.same("unchanged", x.flip(0, 1), OmitMarkup.INCLUDE);
    }

    private static void rings() {
        OmitMarkup x = anyData();
        Notation.entity(x, 0, "'a &0 'b");
        Notation.write(x, "<0 &0");
        CHECK.same("an entity within itself", Notation.tree(x) + Notation.errors(x), "0(ab)RING@1");
        Notation.entity(x, 1, "'c &2");
        Notation.entity(x, 2, "'d &3 &1");
        Notation.entity(x, 3, "'e");
        Notation.rewrite(x, "<0 'z &1 &3");
        CHECK.same("within two others", Notation.tree(x), "0(zcde)");
        CHECK.same("twice a ring", Notation.errors(x), "RING@2 RING@2");
        Notation.rewrite(x, "<0 &2");
        CHECK.same("the third is reached from the second", Notation.tree(x), "0(dec)");
        CHECK.same("the first is not", Notation.errors(x), "RING@1");
        Notation.rewrite(x, "<0 &3 &3");
        CHECK.same("one behind the other is no ring", Notation.tree(x) + Notation.errors(x), "0(ee)");
    }

    private static void rowsEndMarks() {
        OmitMarkup x = anyData();
        x.flip(1, OmitMarkup.IGNORE);
        x.flip(2, OmitMarkup.PLAIN);
        Notation.entity(x, 0, "'a [1 'b [0");
        Notation.entity(x, 1, "'d ]");
        Notation.entity(x, 2, "[2 <1 [1 'q");
        Notation.write(x, "<0 &0 'c");
        CHECK.same("the row of an entity ends its MARKs", Notation.tree(x), "0(ac)");
        CHECK.same("one error for each", Notation.errors(x), "UNMARKED@1 UNMARKED@1");
        Notation.rewrite(x, "<0 [0 &1 'e ]");
        CHECK.same("a MARK_END in another row ends none", Notation.tree(x), "0(de)");
        CHECK.same("and is an error", Notation.errors(x), "UNMARKED@2");
        Notation.rewrite(x, "<0 &2 'e");
        CHECK.same("PLAIN up to the row's end", Notation.tree(x), "0(**qe)");
        CHECK.same("both MARKs are unmarked", Notation.errors(x), "UNMARKED@1 UNMARKED@1");
    }

    private static void marksOfTheText() {
        OmitMarkup x = anyData();
        x.omit(0, true, false);
        x.flip(1, OmitMarkup.IGNORE);
        x.flip(2, OmitMarkup.PLAIN);
        Notation.write(x, "<0 [0 'a [0 'b ] 'c ] 'd ]");
        CHECK.same("included", Notation.tree(x), "0(abcd)");
        CHECK.same("a MARK_END without a MARK", Notation.errors(x), "UNMARKED@9 OPEN@10");
        Notation.rewrite(x, "<0 [0 'a [1 'b ] 'c [2 <1 ] >0");
        CHECK.same("nested", Notation.tree(x), "0(ac*)");
        CHECK.same("a MARK without its end", Notation.errors(x), "UNMARKED@11");
        Notation.rewrite(x, "<0 [0 [1 [2 'a");
        CHECK.same("each MARK, ahead of the closing", Notation.errors(x), "UNMARKED@5 UNMARKED@5 UNMARKED@5 OPEN@5");
        CHECK.same("states within", x.open(5) + x.current(5), 1);
    }

    private static void plainLetters() {
        OmitMarkup x = anyData();
        x.flip(2, OmitMarkup.PLAIN);
        Notation.entity(x, 0, "'x");
        Notation.write(x, "<0 [2 <1 >0 <> >> 'k | &0 [1 | >1 ] | ] 'z");
        CHECK.same("letters of PLAIN", Notation.tree(x), "0(****k_**_**_z)");
        CHECK.same("no errors", Notation.errors(x), "");
        // IGNORE within PLAIN counts for nothing but its MARK_END
        x.flip(1, OmitMarkup.IGNORE);
        CHECK.same("the switch of a MARK among them is not looked at", Notation.tree(x), "0(****k_**_**_z)");
        // PLAIN is read by the rules of reading, with tags put in and errors
        OmitMarkup y = new OmitMarkup();
        Notation.model(y, 0, "1");
        Notation.model(y, 1, "D");
        y.omit(0, true, true);
        y.omit(1, true, true);
        y.flip(0, OmitMarkup.PLAIN);
        Notation.write(y, "[0 >1 'b ]");
        CHECK.same("tags put in", Notation.tree(y), "0+(1+(*))");
        CHECK.same("and errors", Notation.errors(y), "NOT_HERE@2");
    }

    private static void ignoredMarksCount() {
        OmitMarkup x = anyData();
        x.flip(1, OmitMarkup.IGNORE);
        x.flip(2, OmitMarkup.PLAIN);
        Notation.write(x, "<0 [1 [2 'a ] 'b &5 <9 ] 'c");
        CHECK.same("a MARK within IGNORE has its own MARK_END", Notation.tree(x) + Notation.errors(x), "0(c)");
        Notation.rewrite(x, "<0 [1 [0 ] [1 ] [2 ] 'b ] 'c ]");
        CHECK.same("each has", Notation.tree(x) + Notation.errors(x), "0(c)UNMARKED@11");
    }

    private static void mostErrors() {
        OmitMarkup x = new OmitMarkup();
        x.flip(0, OmitMarkup.PLAIN);
        Notation.entity(x, 0, "&1 &1 &1 &1 &1 &1");
        Notation.entity(x, 1, "[0 [0 [0 [0 [0 [0");
        for (int i = 0; i < 60; i++) x.insert(0, OmitMarkup.ENTITY, 0);
        // each row: 5 letters that are not accepted, 6 MARKs without their ends
        CHECK.same("errors of 60 entities", x.errors(), 60 * 6 * 11);
        CHECK.same("the last one", x.errorKind(60 * 6 * 11 - 1) * 100 + x.errorAt(60 * 6 * 11 - 1), 559);
        CHECK.same("the sixth one", x.errorKind(4) * 10 + x.errorKind(5), 5);
    }
}
