/** Promises 27 to 31: the normal form, and ways to put tags in. */
final class NormalTest {
    private static final Check CHECK = new Check("NormalTest");
    private static final Class<?> IOOBE = IndexOutOfBoundsException.class;
    private static final Class<?> ISE = IllegalStateException.class;

    private NormalTest() { }

    public static void main(String[] args) {
        normalForms();
        normalIndices();
        longNormalForm();
        sames();
        notSames();
        waysOfOne();
        waysOfPlaces();
        waysNeedTextsThatFit();
        waysThatAreErrors();
        waysUpTo1000();
        CHECK.end();
    }

    private static OmitMarkup sample() {
        OmitMarkup x = new OmitMarkup();
        Notation.model(x, 0, "123D*");
        Notation.model(x, 1, "2D*");
        Notation.model(x, 2, "D*");
        x.omit(0, true, true);
        x.omit(1, true, true);
        x.omit(2, true, true);
        return x;
    }

    private static void normalForms() {
        OmitMarkup x = sample();
        CHECK.same("of nothing", Notation.normal(x), "");
        Notation.write(x, "'a <1 <2 | 'b >1 <3 <2 '_ <1");
        CHECK.same("normal form", Notation.normal(x), "<0 'a <1 <2 'b >2 >1 <3 <2 '_ >2 <1 >1 >0");
        CHECK.same("normal()", x.normal(), 14);
        CHECK.same("a blank", x.normalSort(9) * 100 + x.normalValue(9), 432);
        CHECK.same("the EMPTY one has no END", x.normalSort(8) * 100 + x.normalValue(8), 2);
        x.slot(3, 0, true, OmitMarkup.STAR);
        CHECK.same("no longer EMPTY: it takes the blank", Notation.normal(x), "<0 'a <1 <2 'b >2 >1 <3 '_ >3 >0");
        x.empty(0);
        CHECK.same("an EMPTY root", Notation.normal(x), "<0");
        CHECK.same("reads as the same", x.isSame(), true);
    }

    private static void normalIndices() {
        OmitMarkup x = sample();
        for (int n : new int[] {0, 3}) {
            if (n == 3) Notation.write(x, "'a");
            CHECK.same("normal()", x.normal(), n);
            for (int i : new int[] {-1, n, n + 1, Integer.MIN_VALUE, Integer.MAX_VALUE}) {
                CHECK.refused("normalSort(" + i + ")", IOOBE, () -> x.normalSort(i));
                CHECK.refused("normalValue(" + i + ")", IOOBE, () -> x.normalValue(i));
            }
        }
    }

    private static void longNormalForm() {
        OmitMarkup x = sample();
        Notation.entity(x, 0, "&1 &1 &1 &1 &1 &1");
        Notation.entity(x, 1, "<1 <1 <1 <1 <1 <1");
        Notation.write(x, "<0 &0 &0 &0 &0 &0 &0 &0 &0 &0");
        CHECK.same("things", x.things(), 300);
        CHECK.same("the longest normal form", x.normal(), 600);
        CHECK.same("its last token", x.normalSort(599) * 10 + x.normalValue(599), 10);
        CHECK.same("left out", x.errors(), 25);
        CHECK.same("is read as the same", x.isSame(), true);
        CHECK.refused("is too long for a text", ISE, x::normalize);
    }

    private static void sames() {
        OmitMarkup x = sample();
        CHECK.same("nothing", x.isSame(), true);
        Notation.write(x, "'a");
        CHECK.same("tags put in", x.isSame(), true);
        Notation.write(x, ">7 <9 <>");
        CHECK.same("errors that leave out", x.isSame(), true);
        x.omit(0, false, false);
        x.omit(1, false, false);
        Notation.rewrite(x, "<0 <1 'a");
        CHECK.same("tags that may not be left out, but were", Notation.errors(x), "OPEN@3 OPEN@3");
        CHECK.same("are written in the normal form", x.isSame(), true);
        x.except(0, 1 << 9, 0);
        x.except(1, 1 << 4, 1 << 2);
        Notation.rewrite(x, "<0 <1 <2 <9 <4 'a >1 <2 <4");
        CHECK.same("includes and excludes", Notation.tree(x), "0(1(9()4()a)2())");
        CHECK.same("hold in the normal form", x.isSame(), true);
    }

    private static void notSames() {
        OmitMarkup x = new OmitMarkup();
        Notation.model(x, 0, "1 2");
        Notation.model(x, 1, "D");
        x.omit(0, true, true);
        Notation.write(x, "<0 <1 'a >1 >0");
        CHECK.same("0 ends ahead of its 2", Notation.errors(x), "SHORT@4");
        CHECK.same("and so in the normal form", x.isSame(), false);
        x.insert(4, OmitMarkup.START, 2);
        CHECK.same("with its 2", x.isSame(), true);
        x.erase(2);
        CHECK.same("1 ends ahead of its data", x.isSame(), false);
        // the normal form puts an element in where one is missing that may be put in
        x.omit(1, true, true);
        Notation.rewrite(x, "<0 <1 >>");
        CHECK.same("nothing to put in", x.isSame(), false);
        CHECK.same("what is short", Notation.errors(x), "SHORT@2 SHORT@3");
        OmitMarkup y = new OmitMarkup();
        Notation.model(y, 0, "1 D");
        Notation.write(y, "<0");
        CHECK.same("a short root", y.isSame(), false);
    }

    private static void waysOfOne() {
        OmitMarkup x = sample();
        x.omit(1, false, false);
        x.omit(2, false, false);
        x.omit(0, false, false);
        CHECK.same("of nothing: that alone", x.ways(), 1);
        Notation.write(x, "<0 'a >0");
        CHECK.same("of a whole text: that alone", x.ways(), 1);
        x.omit(0, false, true);
        CHECK.same("no END of the root more, as it is closed", x.ways(), 1);
        x.erase(2);
        CHECK.same("the END is put in", x.ways(), 1);
        x.omit(0, true, false);
        CHECK.same("it may not be", x.ways(), 0);
        x.omit(0, true, true);
        x.erase(0);
        CHECK.same("START and END of the root", x.ways(), 1);
        x.omit(1, true, false);
        CHECK.same("no third one", x.ways(), 1);
        x.erase(0);
        CHECK.same("of nothing: that, or the root and its END", x.ways(), 2);
        x.empty(0);
        CHECK.same("of nothing, with an EMPTY root: that, or the root", x.ways(), 2);
    }

    private static void waysOfPlaces() {
        OmitMarkup x = new OmitMarkup();
        Notation.model(x, 0, "3*");
        x.omit(3, true, true);
        Notation.write(x, "<0 <3 >0");
        // 3 is EMPTY: none; one ahead or behind; two ahead, one on each side, two behind
        CHECK.same("unlike places count, though the rows are the same", x.ways(), 6);
        Notation.rewrite(x, "<0 >0");
        CHECK.same("at one place: none, one, two", x.ways(), 3);
        Notation.model(x, 3, "D?");
        CHECK.same("none, or a START with its END", x.ways(), 2);
        Notation.rewrite(x, "<0 <3 >0");
        CHECK.same("the END of it; a second 3 would take three", x.ways(), 1);
        Notation.rewrite(x, "<0 'a >0");
        CHECK.same("only around the data", x.ways(), 1);
        x.omit(3, true, false);
        CHECK.same("without its END", x.ways(), 0);
        // two sorts at one place, in either order
        OmitMarkup y = new OmitMarkup();
        Notation.model(y, 0, "12*");
        y.omit(1, true, false);
        y.omit(2, true, false);
        Notation.write(y, "<0 >0");
        CHECK.same("none, 1, 2, 11, 12, 21, 22", y.ways(), 7);
        y.omit(2, false, true);
        CHECK.same("none, 1, 11", y.ways(), 3);
    }

    private static void waysNeedTextsThatFit() {
        OmitMarkup x = sample();
        Notation.write(x, "<0 'a 'a 'a 'a >0");
        CHECK.same("six tokens", x.ways() > 0, true);
        x.insert(1, OmitMarkup.DATA, 'a');
        CHECK.refused("seven tokens", ISE, x::ways);
        for (String token : "<> >> | &0 [0 ]".split(" ")) {
            Notation.rewrite(x, "<0 " + token);
            CHECK.refused("ways with " + token, ISE, x::ways);
            Notation.rewrite(x, token);
            CHECK.refused("ways of " + token, ISE, x::ways);
        }
        Notation.rewrite(x, "<0 <1 'a >1 >0");
        CHECK.same("START, END and DATA", x.ways() > 0, true);
    }

    private static void waysThatAreErrors() {
        OmitMarkup x = sample();
        Notation.write(x, ">0");
        CHECK.same("an END that is an error: with the START ahead", x.ways() > 0, true);
        Notation.rewrite(x, "<9");
        CHECK.same("an element that is not accepted", x.ways(), 0);
        Notation.rewrite(x, "<0 >0 'a");
        CHECK.same("data behind the root", x.ways(), 0);
        // reading would put the END of 2 in, so that this is no way; nor is one with two of them missing
        OmitMarkup y = new OmitMarkup();
        Notation.model(y, 0, "1*");
        Notation.model(y, 1, "2*");
        Notation.model(y, 2, "3*");
        Notation.model(y, 3, "D?");
        for (int e = 0; e < 4; e++) y.omit(e, false, true);
        Notation.write(y, "<0 <1 <2 >1 >0");
        CHECK.same("2 is closed by the one tag put in", y.ways(), 1);
        Notation.rewrite(y, "<0 <1 <2 <3 >0");
        CHECK.same("three tags are missing", y.ways(), 0);
        Notation.rewrite(y, "<0 <1 <2 >0");
        CHECK.same("two tags are missing", y.ways(), 1);
        // SHORT: an element that cannot end
        OmitMarkup z = new OmitMarkup();
        Notation.model(z, 0, "3");
        z.omit(3, true, true);
        Notation.write(z, "<0 >0");
        CHECK.same("the missing one is put in, but not twice", z.ways(), 1);
        z.omit(3, false, true);
        CHECK.same("it may not be put in", z.ways(), 0);
    }

    private static void waysUpTo1000() {
        OmitMarkup x = new OmitMarkup();
        Notation.model(x, 0, "123456789D*");
        for (int e = 1; e < 10; e++) x.omit(e, true, false);
        Notation.write(x, "<0 'a 'b 'c 'd >0");
        // 9 EMPTY elements at the 5 places within: none; 5 * 9; two: 15 pairs of places * 81
        CHECK.same("1 + 45 + 1215 are told as 1000", x.ways(), 1000);
        x.erase(4);
        CHECK.same("1 + 36 + 810", x.ways(), 847);
        for (int e = 1; e < 10; e++) x.omit(e, e < 8, false);
        x.insert(4, OmitMarkup.DATA, 'e');
        CHECK.same("1 + 35 + 735", x.ways(), 771);
        x.omit(8, true, false);
        CHECK.same("1 + 40 + 960 are one too many", x.ways(), 1000);
    }
}
