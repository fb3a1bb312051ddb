/** Promises 17 to 26: what is asked of the tree and of the errors. */
final class TreeTest {
    private static final Check CHECK = new Check("TreeTest");
    private static final Class<?> IOOBE = IndexOutOfBoundsException.class;

    private TreeTest() { }

    public static void main(String[] args) {
        aTree();
        aTreeByEntities();
        indices();
        endTags();
        errors();
        questionsChangeNothing();
        CHECK.end();
    }

    /** The root has one 1 and any number of 2; 1 has data and 3, which is EMPTY; 2 has one 1. */
    private static OmitMarkup sample() {
        OmitMarkup x = new OmitMarkup();
        Notation.model(x, 0, "1 2*");
        Notation.model(x, 1, "3D*");
        Notation.model(x, 2, "1");
        x.omit(0, true, true);
        x.omit(1, true, true);
        x.omit(2, false, true);
        return x;
    }

    private static void aTree() {
        OmitMarkup x = sample();
        Notation.write(x, "'a <3 'b <2 | '~");
        // 0+ (1+ (a 3 b) 2 (1+ (~))): the LINE is right behind a START
        int[] kinds = {0, 1, 10, 3, 10, 2, 1, 10};
        int[] parents = {-1, 0, 1, 1, 1, 0, 5, 6};
        int[] places = {0, 0, 0, 1, 2, 3, 5, 5};
        boolean[] putIn = {true, true, false, false, false, false, true, false};
        String letters = "<<a<b<<~";
        CHECK.same("things()", x.things(), 8);
        for (int i = 0; i < 8; i++) {
            CHECK.same("kind(" + i + ")", x.kind(i), kinds[i]);
            CHECK.same("parent(" + i + ")", x.parent(i), parents[i]);
            CHECK.same("letter(" + i + ")", x.letter(i), letters.charAt(i));
            CHECK.same("placeOf(" + i + ")", x.placeOf(i), places[i]);
            CHECK.same("isPutIn(" + i + ")", x.isPutIn(i), putIn[i]);
        }
        CHECK.same("endsPutIn()", x.endsPutIn(), 4);
        CHECK.same("errors()", x.errors(), 0);
        // a blank that is no LINE, and one that is
        Notation.rewrite(x, "<0 '_ | '<");
        CHECK.same("letters of blanks", x.letter(2) * 1000 + x.letter(3), 32032);
        CHECK.same("'<' as data", x.letter(4) + x.kind(4), '<' + 10);
    }

    private static void aTreeByEntities() {
        OmitMarkup x = sample();
        Notation.entity(x, 0, "'a &1 >1");
        Notation.entity(x, 1, "<3 >7");
        Notation.write(x, "<0 &0 <2 &1 &0");
        CHECK.same("tree", Notation.tree(x), "0(1+(a3())2(1+(3()a3())))");
        CHECK.same("places", Notation.places(x), "0 1 1 1 2 3 3 4 4");
        CHECK.same("errors", Notation.errors(x), "NOTHING@1 NOTHING@3 NOTHING@4");
        CHECK.same("ends put in", x.endsPutIn(), 2);
    }

    private static void indices() {
        OmitMarkup x = sample();
        for (int n : new int[] {0, 3}) {
            if (n == 3) Notation.write(x, "'a");
            CHECK.same("things()", x.things(), n);
            for (int i : new int[] {-1, n, n + 1, Integer.MIN_VALUE, Integer.MAX_VALUE}) {
                CHECK.refused("kind(" + i + ")", IOOBE, () -> x.kind(i));
                CHECK.refused("parent(" + i + ")", IOOBE, () -> x.parent(i));
                CHECK.refused("letter(" + i + ")", IOOBE, () -> x.letter(i));
                CHECK.refused("placeOf(" + i + ")", IOOBE, () -> x.placeOf(i));
                CHECK.refused("isPutIn(" + i + ")", IOOBE, () -> x.isPutIn(i));
            }
        }
        // what was there ahead of an edit is not there any more
        x.erase(0);
        CHECK.refused("kind(0) of nothing", IOOBE, () -> x.kind(0));
    }

    private static void endTags() {
        OmitMarkup x = sample();
        Notation.write(x, "<0 <1 >1 <2 <1 >1 >2 >0");
        CHECK.same("all written", x.endsPutIn(), 0);
        x.erase(7);
        CHECK.same("the root's is put in behind the last token", x.endsPutIn(), 1);
        x.erase(6);
        CHECK.same("and that of 2", x.endsPutIn(), 2);
        x.erase(2);
        CHECK.same("that of 1, as 2 is not accepted in it", x.endsPutIn(), 3);
        Notation.rewrite(x, "<0 <1 <3 >0");
        CHECK.same("that of 1, as 0 is closed; none of 3, which is EMPTY", x.endsPutIn(), 1);
        CHECK.same("not put in by an END of its own", Notation.errors(x), "");
    }

    private static void errors() {
        OmitMarkup x = sample();
        x.omit(1, true, false);
        Notation.write(x, ">4 <0 >4 <2 'a <9");
        // 1 is put in for 2, and cannot be closed for it; nor for 9
        CHECK.same("errors()", x.errors(), 5);
        int[] kinds = {OmitMarkup.NOTHING, OmitMarkup.NOTHING, OmitMarkup.NOT_HERE, OmitMarkup.NOT_HERE, OmitMarkup.OPEN};
        int[] places = {0, 2, 3, 5, 6};
        for (int i = 0; i < 5; i++) {
            CHECK.same("errorKind(" + i + ")", x.errorKind(i), kinds[i]);
            CHECK.same("errorAt(" + i + ")", x.errorAt(i), places[i]);
        }
        for (int i : new int[] {-1, 5, 6, Integer.MIN_VALUE, Integer.MAX_VALUE}) {
            CHECK.refused("errorKind(" + i + ")", IOOBE, () -> x.errorKind(i));
            CHECK.refused("errorAt(" + i + ")", IOOBE, () -> x.errorAt(i));
        }
        CHECK.same("the tree", Notation.tree(x), "0(1+(a))");
        Notation.rewrite(x, "<0 <1 >1 >0");
        CHECK.same("no errors", x.errors(), 0);
        CHECK.refused("errorKind(0)", IOOBE, () -> x.errorKind(0));
        CHECK.refused("errorAt(0)", IOOBE, () -> x.errorAt(0));
    }

    private static void questionsChangeNothing() {
        OmitMarkup x = sample();
        Notation.write(x, "'a <3 'b <2 >5");
        String told = Oracle.told(x);
        x.isSame();
        CHECK.same("isSame() changes nothing", Oracle.told(x), told);
        x.erase(4);
        x.erase(1);
        told = Oracle.told(x);
        x.ways();
        CHECK.same("ways() changes nothing", Oracle.told(x), told);
        CHECK.refused("a thing too many", IOOBE, () -> x.kind(x.things()));
        CHECK.refused("an edit too far", IOOBE, () -> x.insert(9, 0, 0));
        CHECK.refused("a token too many", IOOBE, () -> x.normalSort(x.normal()));
        CHECK.same("calls that throw change nothing", Oracle.told(x), told);
    }
}
