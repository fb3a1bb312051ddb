/** Promises 9 to 16: edits of the text, how much they read anew, and the states of reading. */
final class TextTest {
    private static final Check CHECK = new Check("TextTest");
    private static final Class<?> IOOBE = IndexOutOfBoundsException.class;
    private static final Class<?> IAE = IllegalArgumentException.class;
    private static final Class<?> ISE = IllegalStateException.class;

    private TextTest() { }

    public static void main(String[] args) {
        inserts();
        insertArguments();
        erases();
        normalizes();
        states();
        statePlaces();
        insertReadsAnew();
        eraseReadsAnew();
        linesReadAnew();
        marksReadAnew();
        statesOfWhichLastAndSome();
        fullTree();
        CHECK.end();
    }

    /** The root has any number of 1 and data; 1 has one 2 and any data; 2 has data. */
    private static OmitMarkup sample() {
        OmitMarkup x = new OmitMarkup();
        Notation.model(x, 0, "1D*");
        Notation.model(x, 1, "2? D*");
        Notation.model(x, 2, "D*");
        x.omit(0, true, true);
        x.omit(1, false, true);
        x.omit(2, false, true);
        return x;
    }

    private static void inserts() {
        OmitMarkup x = sample();
        CHECK.same("the first", x.insert(0, OmitMarkup.DATA, 'b'), 1);
        CHECK.same("ahead", x.insert(0, OmitMarkup.DATA, 'a'), 2);
        CHECK.same("behind", x.insert(2, OmitMarkup.DATA, 'd'), 3);
        CHECK.same("between", x.insert(2, OmitMarkup.DATA, 'c'), 4);
        CHECK.same("length", x.length(), 4);
        CHECK.same("the order", Notation.tree(x), "0+(abcd)");
        CHECK.same("the places", Notation.places(x), "0 0 1 2 3");
        for (int i = 5; i <= 60; i++) {
            CHECK.same("up to 60", x.insert(1, OmitMarkup.EMPTY_END, 12345), i);
        }
        CHECK.refused("61", ISE, () -> x.insert(0, OmitMarkup.DATA, 'a'));
        CHECK.refused("61 at no place", IOOBE, () -> x.insert(61, OmitMarkup.DATA, 'a'));
        CHECK.refused("61 of no sort", IAE, () -> x.insert(60, 9, 'a'));
        CHECK.same("length 60", x.length(), 60);
        CHECK.same("the state at its end", x.open(60), 0);
        CHECK.refused("no state behind", IOOBE, () -> x.open(61));
    }

    private static void insertArguments() {
        OmitMarkup x = sample();
        Notation.write(x, "<0 'a");
        CHECK.refused("place -1", IOOBE, () -> x.insert(-1, 9, 0));
        CHECK.refused("place 3", IOOBE, () -> x.insert(3, 0, 0));
        CHECK.refused("sort -1", IAE, () -> x.insert(0, -1, 0));
        CHECK.refused("sort 9", IAE, () -> x.insert(0, 9, 0));
        int[][] wrong = {{0, -1}, {0, 10}, {1, -1}, {1, 10}, {4, 31}, {4, 127}, {6, -1}, {6, 6}, {7, -1}, {7, 4}};
        for (int[] w : wrong) {
            CHECK.refused("token " + w[0] + " " + w[1], IAE, () -> x.insert(1, w[0], w[1]));
        }
        CHECK.same("unchanged", x.length() + Notation.tree(x) + x.anew(), "20(a)1");
        int[][] right = {{0, 0}, {0, 9}, {1, 0}, {1, 9}, {4, 32}, {4, 126}, {6, 0}, {6, 5}, {7, 0}, {7, 3}, {2, -1}, {3, 99}, {5, -9}, {8, 8}};
        int length = 2;
        for (int[] r : right) {
            CHECK.same("token " + r[0] + " " + r[1], x.insert(2, r[0], r[1]), ++length);
        }
    }

    private static void erases() {
        OmitMarkup x = sample();
        CHECK.refused("erase of nothing", IOOBE, () -> x.erase(0));
        Notation.write(x, "<0 'a 'b 'c");
        CHECK.refused("erase(-1)", IOOBE, () -> x.erase(-1));
        CHECK.refused("erase(4)", IOOBE, () -> x.erase(4));
        CHECK.same("erase(2)", x.erase(2), 3);
        CHECK.same("b is gone", Notation.tree(x), "0(ac)");
        CHECK.same("erase(0)", x.erase(0), 2);
        CHECK.same("the root is put in", Notation.tree(x), "0+(ac)");
        CHECK.same("erase(1)", x.erase(1), 1);
        CHECK.same("erase(0)", x.erase(0), 0);
        CHECK.same("nothing stays", x.things() + x.errors() + x.endsPutIn() + x.normal() + x.length(), 0);
    }

    private static void normalizes() {
        OmitMarkup x = sample();
        Notation.write(x, "'a <1 <2 'b >> 'c");
        CHECK.same("ahead", Notation.tree(x), "0+(a1(2(b)c))");
        CHECK.same("normalize()", x.normalize(), 9);
        CHECK.same("length", x.length(), 9);
        CHECK.same("all was read anew", x.anew(), 9);
        CHECK.same("behind", Notation.tree(x), "0(a1(2(b)c))");
        CHECK.same("nothing put in", x.endsPutIn(), 0);
        CHECK.same("the text is that", Notation.places(x), "0 1 2 3 4 6");
        // 29 elements within the root: 2 tokens each, and 2 of the root: 60
        OmitMarkup y = new OmitMarkup();
        Notation.model(y, 0, "1D*");
        Notation.model(y, 1, "D*");
        y.omit(0, true, true);
        y.omit(1, true, true);
        for (int i = 0; i < 29; i++) y.insert(0, OmitMarkup.START, 1);
        CHECK.same("a normal form of 60", y.normal(), 60);
        y.insert(29, OmitMarkup.DATA, 'a');
        CHECK.same("a normal form of 61", y.normal(), 61);
        CHECK.refused("is too long", ISE, y::normalize);
        CHECK.same("nothing changed", y.length() * 100 + y.anew(), 3001);
        y.erase(29);
        CHECK.same("60 are not", y.normalize(), 60);
        CHECK.same("60 read anew", y.anew(), 60);
    }

    private static void states() {
        OmitMarkup x = sample();
        Notation.write(x, "<1 <2 'a 'b >1 >0 'c");
        int[] opens = {0, 2, 3, 3, 3, 1, 0, 0};
        int[] currents = {-1, 1, 2, 2, 2, 0, -1, -1};
        int[] nexts = {0, 1024 + 4, 1024, 1024, 1024, 1024 + 2, 0, 0};
        for (int p = 0; p <= 7; p++) {
            CHECK.same("open(" + p + ")", x.open(p), opens[p]);
            CHECK.same("current(" + p + ")", x.current(p), currents[p]);
            CHECK.same("next(" + p + ")", x.next(p), nexts[p]);
        }
        // next() is about the model alone: not what is included, and what is excluded all the same
        x.except(0, 512, 2);
        CHECK.same("next() with exceptions", x.next(5), 1024 + 2);
        // as far as the model is read
        OmitMarkup y = new OmitMarkup();
        Notation.model(y, 0, "1 2? 3* 4+ D");
        int[] due = {2, 4 + 8 + 16, 8 + 16, 8 + 16, 16 + 1024, 16 + 1024, 0};
        Notation.write(y, "<0 <1 <2 <3 <4 <4 'a");
        for (int p = 1; p <= 7; p++) {
            CHECK.same("next(" + p + ") of a model", y.next(p), due[p - 1]);
        }
    }

    private static void statePlaces() {
        OmitMarkup x = sample();
        Notation.write(x, "'a 'b");
        CHECK.refused("open(-1)", IOOBE, () -> x.open(-1));
        CHECK.refused("open(3)", IOOBE, () -> x.open(3));
        CHECK.refused("current(-1)", IOOBE, () -> x.current(-1));
        CHECK.refused("current(3)", IOOBE, () -> x.current(3));
        CHECK.refused("next(-1)", IOOBE, () -> x.next(-1));
        CHECK.refused("next(3)", IOOBE, () -> x.next(3));
        CHECK.same("behind all tokens the elements are open yet", x.open(2), 1);
        x.erase(1);
        CHECK.refused("open(2) of one token", IOOBE, () -> x.open(2));
    }

    private static void insertReadsAnew() {
        OmitMarkup x = sample();
        Notation.write(x, "<0 'a 'b 'c 'd");
        x.insert(2, OmitMarkup.DATA, 'x');
        CHECK.same("data among data", x.anew(), 1);
        x.insert(2, OmitMarkup.START, 1);
        CHECK.same("a START that changes all behind it", x.anew(), 5);
        x.insert(4, OmitMarkup.END, 1);
        CHECK.same("its END: the states behind it are new to the end", x.anew(), 4);
        CHECK.same("the tree", Notation.tree(x), "0(a1(x)bcd)");
        x.insert(8, OmitMarkup.END, 0);
        CHECK.same("at the end", x.anew(), 1);
        x.insert(0, OmitMarkup.END, 5);
        CHECK.same("an error right at the front", x.anew(), 1);
        x.insert(1, OmitMarkup.START, 0);
        CHECK.same("a second root: the same state behind the next START, which is an error then", x.anew(), 2);
        CHECK.same("the errors", Notation.errors(x), "NOTHING@0 NOT_HERE@2");
    }

    private static void eraseReadsAnew() {
        OmitMarkup x = sample();
        Notation.write(x, "<0 'a <1 'b >1 'c >5 'd >0");
        x.erase(6);
        CHECK.same("a token that changed no state", x.anew(), 0);
        x.erase(5);
        CHECK.same("data that changed none", x.anew(), 0);
        x.erase(4);
        CHECK.same("an END: up to the next END", x.anew(), 2);
        x.erase(2);
        CHECK.same("a START: which was opened last differs to the end", x.anew(), 3);
        x.erase(4);
        CHECK.same("the last token", x.anew(), 0);
        CHECK.same("what is left", Notation.tree(x), "0(abd)");
    }

    private static void linesReadAnew() {
        OmitMarkup x = sample();
        Notation.write(x, "<0 'a | 'b");
        x.insert(3, OmitMarkup.DATA, 'x');
        CHECK.same("a LINE ahead is read anew", x.anew(), 2);
        x.insert(2, OmitMarkup.DATA, 'y');
        CHECK.same("a LINE behind is read anew", x.anew(), 2);
        x.insert(3, OmitMarkup.END, 7);
        CHECK.same("an END that is an error: the LINE behind", x.anew(), 2);
        CHECK.same("its LINE is data", Notation.tree(x), "0(ay_xb)");
        x.insert(5, OmitMarkup.END, 7);
        CHECK.same("an END behind the LINE: it is left out then", Notation.tree(x), "0(ayxb)");
        CHECK.same("read with the LINE ahead", x.anew(), 2);
        x.erase(5);
        CHECK.same("erased: the LINE ahead", x.anew(), 1);
        CHECK.same("it is data again", Notation.tree(x), "0(ay_xb)");
        x.erase(3);
        CHECK.same("erased ahead of a LINE: that LINE", x.anew(), 1);
        x.insert(3, OmitMarkup.LINE, 0);
        CHECK.same("a LINE ahead of a LINE: the inserted one and that", x.anew(), 2);
        x.insert(4, OmitMarkup.DATA, 'z');
        CHECK.same("between two LINEs: both", x.anew(), 3);
        x.erase(4);
        CHECK.same("erased between two LINEs: both", x.anew(), 2);
        // the LINE behind changes the state: reading goes on
        OmitMarkup y = new OmitMarkup();
        Notation.model(y, 0, "1D* 2?");
        Notation.model(y, 1, "D");
        y.omit(1, true, true);
        Notation.write(y, "<0 <1 >5 | 'a <1 >1 >0");
        CHECK.same("ahead", Notation.tree(y), "0(1(_)a1())");
        y.insert(3, OmitMarkup.START, 9);
        CHECK.same("the LINE is left out, and the data goes into the 1", Notation.tree(y), "0(1(a)1())");
        CHECK.same("up to where the states meet again", y.anew(), 4);
    }

    private static void marksReadAnew() {
        OmitMarkup x = sample();
        x.flip(1, OmitMarkup.IGNORE);
        Notation.write(x, "<0 'a [0 'b 'c ] 'd 'e");
        x.insert(4, OmitMarkup.DATA, 'x');
        CHECK.same("within a MARK up to its end", x.anew(), 3);
        x.erase(4);
        CHECK.same("erased within a MARK", x.anew(), 2);
        x.insert(2, OmitMarkup.DATA, 'y');
        CHECK.same("ahead of a MARK", x.anew(), 1);
        x.insert(2, OmitMarkup.MARK, 1);
        CHECK.same("a MARK without its end: to the end", x.anew(), 8);
        CHECK.same("errors", Notation.errors(x), "UNMARKED@10");
        x.insert(6, OmitMarkup.MARK_END, 0);
        CHECK.same("its MARK_END is that of the inner one: to the end", x.anew(), 5);
        x.erase(6);
        x.erase(2);
        CHECK.same("the MARK is gone: to the inner one's end, and on as it was another's", x.anew(), 7);
        x.insert(8, OmitMarkup.MARK_END, 0);
        CHECK.same("a MARK_END without a MARK", x.anew(), 1);
        x.erase(8);
        CHECK.same("and gone", x.anew(), 0);
        x.erase(6);
        CHECK.same("a MARK_END is gone: to the end", x.anew(), 2);
    }

    private static void statesOfWhichLastAndSome() {
        // which element was opened last is part of the state, also where nothing else differs
        OmitMarkup x = new OmitMarkup();
        Notation.model(x, 0, "12*");
        Notation.write(x, "<0 <1 >5 >5 >5");
        x.insert(2, OmitMarkup.START, 2);
        CHECK.same("another last one to the end", x.anew(), 4);
        x.insert(2, OmitMarkup.START, 1);
        CHECK.same("the same last one", x.anew(), 1);
        // whether some were taken is part of it, too
        OmitMarkup y = new OmitMarkup();
        Notation.model(y, 0, "D*");
        Notation.write(y, "<0 >5 >5");
        y.insert(1, OmitMarkup.DATA, 'a');
        CHECK.same("some were taken", y.anew(), 3);
        y.insert(2, OmitMarkup.DATA, 'a');
        CHECK.same("some were taken already", y.anew(), 1);
        // how many things there are is no part
        y.erase(2);
        CHECK.same("one thing less", y.anew(), 0);
    }

    /** Nearly 300 things: what is behind an edit changes, though it is not read anew. */
    private static void fullTree() {
        OmitMarkup x = new OmitMarkup();
        Notation.model(x, 0, "1D*");
        Notation.model(x, 1, "1D*");
        x.omit(0, true, true);
        x.omit(1, true, true);
        Notation.entity(x, 0, "&1 &1 &1 &1 &1 &1");
        Notation.entity(x, 1, "'a 'a 'a 'a 'a 'a");
        Notation.write(x, "<0 &0 &0 &0 &0 &0 &0 &0 &0");
        CHECK.same("289 things", x.things(), 289);
        Notation.write(x, "'b 'b 'b 'b 'b 'b 'b 'b 'b 'b 'b");
        CHECK.same("300 things", x.things(), 300);
        CHECK.same("no errors yet", x.errors(), 0);
        Notation.write(x, "<1 >1");
        CHECK.same("the tree is full", Notation.errors(x), "DEEP@20 NOTHING@21");
        x.insert(12, OmitMarkup.DATA, 'c');
        CHECK.same("one token is read anew", x.anew(), 1);
        CHECK.same("but the last letter is left out now", Notation.errors(x), "DEEP@20 DEEP@21 NOTHING@22");
        CHECK.same("the letter is there", x.letter(292), 'c');
        x.erase(0);
        CHECK.same("the root is put in", x.isPutIn(0) && x.things() == 300, true);
        // the 1 fits in as soon as two letters are gone; the states differ then to the END
        x.erase(8);
        CHECK.same("a letter gone: as without that one thing", x.things(), 300);
        x.erase(8);
        CHECK.same("the 1 is there", x.kind(299), 1);
        CHECK.same("nothing was read anew all the same", x.anew(), 0);
        CHECK.same("the state is that of the whole text", x.open(19) * 10 + x.current(19), 21);
        CHECK.same("errors", x.errors(), 0);
    }
}
