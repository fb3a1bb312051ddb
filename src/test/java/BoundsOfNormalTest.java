/**
 * Promises 27 to 31, Terms, The tree and the normal form, and Ways: each sentence that names a bound, just inside it
 * and at it. What is beyond is refused, see RefusalTest.
 */
final class BoundsOfNormalTest {
    private static final Check CHECK = new Check("BoundsOfNormalTest");
    private static final Class<?> IOOBE = Scenes.IOOBE;

    private BoundsOfNormalTest() { }

    public static void main(String[] args) {
        promise27FromNoneTo600();
        promise27AnEmptyOneHasNoEnd();
        promise28EachSort();
        promise29EachElementAndLetter();
        promise28And29FirstAndLast();
        promise30WithoutErrors();
        promise30PutsNothingIn();
        promise30OfNothingAndOf300();
        promise30TwentyDeep();
        promise31UpTo1000();
        promise31TextsOfAtMostSixTokens();
        promise31EachSortOfToken();
        waysPutAtMostTwoIn();
        waysAtAnyPlaces();
        waysAtUnlikePlaces();
        waysOfTagsThatMayBeLeftOut();
        waysAreReadWithoutErrors();
        waysPutNoTagInByReading();
        CHECK.end();
    }

    private static void omitAll(OmitMarkup x) {
        for (int e = 0; e < 10; e++) x.omit(e, true, true);
    }

    private static int ways(OmitMarkup x, String text) {
        Notation.rewrite(x, text);
        return x.ways();
    }

    // ---- promises 27 to 29

    private static void promise27FromNoneTo600() {
        CHECK.about("Promise 27: returns how many tokens the normal form has");
        OmitMarkup none = new OmitMarkup();
        CHECK.same("of no text", none.normal(), 0);
        Notation.write(none, "'a >0 <1");
        CHECK.same("of an empty tree", none.normal(), 0);
        OmitMarkup one = new OmitMarkup();
        Notation.write(one, "<0");
        CHECK.same("of an EMPTY root", one.normal(), 1);
        one.slot(0, 0, true, OmitMarkup.STAR);
        CHECK.same("of a root that is not EMPTY", one.normal(), 2);
        OmitMarkup x = Scenes.crowd();
        x.insert(0, OmitMarkup.START, 0);
        for (int i = 1; i <= 8; i++) {
            x.insert(i, OmitMarkup.ENTITY, 2);
            CHECK.same("of 36 elements more", x.normal(), 2 + i * 72);
        }
        x.insert(9, OmitMarkup.ENTITY, 2);
        CHECK.same("of 300 elements", x.normal(), 600);
        CHECK.same("things()", x.things(), 300);
        Notation.write(x, "<1 'a &2");
        CHECK.same("no more", x.normal(), 600);
        OmitMarkup y = Scenes.crowd();
        Scenes.fillUp(y, 300);
        CHECK.same("of 299 letters", y.normal(), 301);
    }

    private static void promise27AnEmptyOneHasNoEnd() {
        CHECK.about("The normal form: then an END, which an EMPTY one does not have");
        OmitMarkup x = new OmitMarkup();
        Notation.model(x, 0, "12D*");
        Notation.model(x, 1, "2D*");
        omitAll(x);
        Notation.write(x, "<2 <1 <2 <2 'a <1 >1 <2");
        CHECK.same("normal form", Notation.normal(x), "<0 <2 <1 <2 <2 'a >1 <1 >1 <2 >0");
        Notation.model(x, 2, "D?");
        CHECK.same("none is EMPTY", Notation.normal(x), "<0 <2 >2 <1 <2 >2 <2 'a >2 >1 <1 >1 <2 >2 >0");
        x.empty(1);
        CHECK.same("another one is", Notation.normal(x), "<0 <2 >2 <1 <2 >2 <2 'a >2 <1 <2 >2 >0");
    }

    private static void promise28EachSort() {
        CHECK.about("Promise 28: returns START, END or DATA");
        OmitMarkup x = new OmitMarkup();
        Notation.model(x, 0, "1D*");
        Notation.model(x, 1, "D*");
        omitAll(x);
        x.flip(0, OmitMarkup.PLAIN);
        Notation.entity(x, 0, "<1 'q >1");
        Notation.write(x, "| &0 <> 'z [0 >0 ] >9 >> |");
        int[] due = {0, 4, 0, 4, 1, 0, 4, 4, 1, 4, 1};
        CHECK.same("normal form", Notation.normal(x), "<0 '_ <1 'q >1 <1 'z '* >1 '_ >0");
        CHECK.same("normal()", x.normal(), due.length);
        for (int i = 0; i < due.length; i++) CHECK.same("normalSort(" + i + ")", x.normalSort(i), due[i]);
    }

    private static void promise29EachElementAndLetter() {
        CHECK.about("Promise 29: returns the element, or the letter as a number");
        for (int e = 1; e <= 9; e++) {
            OmitMarkup x = new OmitMarkup();
            Notation.model(x, 0, "" + e);
            Notation.model(x, e, "D");
            Notation.write(x, "<0 <" + e + " 'a >" + e + " >0");
            int[] due = {0, e, 'a', e, 0};
            for (int i = 0; i < 5; i++) CHECK.same("normalValue(" + i + ") of " + e, x.normalValue(i), due[i]);
        }
        for (int value = ' '; value <= '~'; value++) {
            OmitMarkup x = new OmitMarkup();
            Notation.model(x, 0, "D");
            x.insert(0, OmitMarkup.START, 0);
            x.insert(1, OmitMarkup.DATA, value);
            CHECK.same("normalValue(1) of the letter " + value, x.normalValue(1), value);
        }
    }

    private static void promise28And29FirstAndLast() {
        CHECK.about("Promises 28 and 29, token: from 0");
        for (int tokens : new int[] {2, 3, 60, 61}) {
            OmitMarkup x = Scenes.ofNormal(tokens);
            CHECK.same("the first of " + tokens, x.normalSort(0) * 10 + x.normalValue(0), 0);
            CHECK.same("the last of " + tokens, x.normalSort(tokens - 1) * 10 + x.normalValue(tokens - 1), 10);
            CHECK.refused("one more", IOOBE, () -> x.normalSort(tokens));
            CHECK.refused("one more", IOOBE, () -> x.normalValue(tokens));
        }
        for (int part = 0; part < 3; part++) {
            OmitMarkup x = Scenes.crowd();
            Notation.write(x, "<0 &2 &2 &2 &2 &2 &2 &2 &2 &2");
            for (int i = part * 200; i < part * 200 + 200; i++) {
                int due = i == 0 ? 0 : i == 599 ? 10 : i % 2 == 1 ? 1 : 11;
                CHECK.same("token " + i + " of 600", x.normalSort(i) * 10 + x.normalValue(i), due);
            }
            CHECK.refused("one more", IOOBE, () -> x.normalSort(600));
        }
    }

    // ---- promise 30

    private static void promise30WithoutErrors() {
        CHECK.about("Promise 30: returns whether reading the normal form gives the same tree, without errors");
        String[] models = {"1", "1+", "1 2", "1? 2", "12+", "D", "D 1", "1 D?"};
        for (String model : models) {
            OmitMarkup x = new OmitMarkup();
            Notation.model(x, 0, model);
            omitAll(x);
            Notation.write(x, "<0 >0");
            CHECK.same("a root that is SHORT by " + model, x.isSame(), false);
            CHECK.same("its error", Notation.errors(x), "SHORT@1");
        }
        for (String model : new String[] {"1?", "1*", "D?", "1? 2* D?"}) {
            OmitMarkup x = new OmitMarkup();
            Notation.model(x, 0, model);
            Notation.write(x, "<0 >0");
            CHECK.same("a root that can end by " + model, x.isSame(), true);
        }
        // errors of the text that the normal form does not have
        OmitMarkup x = new OmitMarkup();
        Notation.model(x, 0, "1D*");
        Notation.model(x, 1, "D?");
        Notation.entity(x, 0, "&0 ]");
        Notation.write(x, "'z <0 >9 <2 <1 'a 'b &0 [1");
        CHECK.same("NOT_HERE, NOTHING, RING, UNMARKED and OPEN", x.errors(), 9);
        CHECK.same("the tree", Notation.tree(x), "0(1(a))");
        CHECK.same("none of them is in the normal form", x.isSame(), true);
        // an inner one that is short
        x.slot(1, 1 << 2, false, OmitMarkup.ONE);
        CHECK.same("a 1 that is SHORT", x.isSame(), false);
    }

    private static void promise30PutsNothingIn() {
        CHECK.about("Promise 30: and puts nothing in");
        // the 1 that is missing would be put in for the 2, and closed: but 2 is never there without it
        OmitMarkup x = new OmitMarkup();
        Notation.model(x, 0, "1 2");
        Notation.model(x, 1, "D?");
        omitAll(x);
        Notation.write(x, "<2");
        CHECK.same("tags put in are written out", Notation.normal(x), "<0 <1 >1 <2 >0");
        CHECK.same("so that none is put in", x.isSame(), true);
        Notation.rewrite(x, "<0 'a >0");
        CHECK.same("what is short", Notation.errors(x), "SHORT@2");
        CHECK.same("is not the same", x.isSame(), false);
        CHECK.same("normalize()", x.normalize(), 5);
        CHECK.same("the text is the normal form: no START and no END is put in", Notation.tree(x) + x.endsPutIn(), "0(1(a))0");
    }

    private static void promise30OfNothingAndOf300() {
        CHECK.about("Promise 30: of nothing, of one thing, and of 300");
        OmitMarkup x = new OmitMarkup();
        CHECK.same("of no text", x.isSame(), true);
        Notation.write(x, ">0 'a");
        CHECK.same("of an empty tree", x.isSame(), true);
        Notation.write(x, "<0");
        CHECK.same("of an EMPTY root", x.isSame(), true);
        OmitMarkup y = Scenes.crowd();
        Scenes.fillUp(y, 300);
        CHECK.same("of 299 letters", y.isSame(), true);
        Notation.write(y, "'z &2");
        CHECK.same("of 299 letters, and what is left out", y.isSame(), true);
        OmitMarkup z = Scenes.crowd();
        Scenes.fillUp(z, 299);
        Notation.write(z, "<3");
        CHECK.same("of a last thing that is short", z.isSame(), false);
    }

    private static void promise30TwentyDeep() {
        CHECK.about("Promise 30: of 20 elements within one another");
        OmitMarkup x = new OmitMarkup();
        Notation.model(x, 0, "12D*");
        Notation.model(x, 1, "12D*");
        x.insert(0, OmitMarkup.START, 0);
        for (int i = 1; i < 22; i++) x.insert(i, OmitMarkup.START, 1);
        Notation.write(x, "'a <2 >1 <2 'b");
        CHECK.same("things()", x.things(), 23);
        CHECK.same("normal()", x.normal(), 43);
        CHECK.same("isSame()", x.isSame(), true);
        CHECK.same("normalize()", x.normalize(), 43);
        CHECK.same("errors()", x.errors(), 0);
        CHECK.same("isSame() again", x.isSame(), true);
    }

    // ---- promise 31, ways

    /** The root's model with so many things that may stand first, second and so on; all elements are EMPTY. */
    private static int waysAmongFourLetters(String model, int elements) {
        OmitMarkup x = new OmitMarkup();
        Notation.model(x, 0, model);
        for (int e = 1; e <= elements; e++) x.omit(e, true, false);
        return ways(x, "<0 'a 'b 'c 'd >0");
    }

    private static void promise31UpTo1000() {
        CHECK.about("Promise 31: returns 0 to 1000; 1000 also if there are more");
        // one tag is the i-th thing of 5, two are the i-th and the j-th of 6, with as many elements as the model has there
        CHECK.same("1 + 41 + 957", waysAmongFourLetters("123456789D 123456789D 123456789D 1234567D*", 9), 999);
        CHECK.same("1 + 40 + 959", waysAmongFourLetters("123456789D 1234567D 12345678D*", 9), 1000);
        CHECK.same("1 + 40 + 960", waysAmongFourLetters("12345678D*", 8), 1000);
        CHECK.same("1 + 45 + 1215", waysAmongFourLetters("123456789D*", 9), 1000);
        CHECK.same("1 + 35 + 735", waysAmongFourLetters("1234567D*", 7), 771);
        CHECK.same("1 + 5 + 15", waysAmongFourLetters("1D*", 1), 21);
        CHECK.same("1", waysAmongFourLetters("D*", 0), 1);
        CHECK.same("0: the letters are too many", waysAmongFourLetters("D", 9), 0);
        // twice the same answer: nothing is kept of the first
        OmitMarkup x = new OmitMarkup();
        Notation.model(x, 0, "123456789D*");
        for (int e = 1; e <= 9; e++) x.omit(e, true, false);
        CHECK.same("1000", ways(x, "<0 'a 'b 'c 'd >0"), 1000);
        CHECK.same("1000 again", x.ways(), 1000);
        x.erase(1);
        CHECK.same("1 + 36 + 810 then", x.ways(), 847);
    }

    private static void promise31TextsOfAtMostSixTokens() {
        CHECK.about("Ways: for texts of at most 6 tokens");
        OmitMarkup x = new OmitMarkup();
        Notation.model(x, 0, "D*");
        CHECK.same("of 0 tokens", x.ways(), 1);
        x.insert(0, OmitMarkup.START, 0);
        CHECK.same("of 1 token", x.ways(), 0);
        x.insert(1, OmitMarkup.END, 0);
        for (int tokens = 2; tokens <= 6; tokens++) {
            CHECK.same("of " + tokens + " tokens", x.ways(), 1);
            x.insert(1, OmitMarkup.DATA, 'a');
        }
        CHECK.refused("of 7 tokens", Scenes.ISE, x::ways);
        x.erase(1);
        CHECK.same("of 6 tokens again", x.ways(), 1);
    }

    private static void promise31EachSortOfToken() {
        CHECK.about("Ways: each of which is a START, an END or a DATA");
        String[] tokens = {"<0", ">0", "<>", ">>", "'a", "|", "&0", "[0", "]"};
        for (int sort = 0; sort < tokens.length; sort++) {
            boolean isFit = sort == OmitMarkup.START || sort == OmitMarkup.END || sort == OmitMarkup.DATA;
            for (int place = 0; place <= 3; place++) {
                OmitMarkup x = new OmitMarkup();
                Notation.model(x, 0, "0D*");
                Notation.write(x, "<0 'b >0");
                x.insert(place, Notation.sort(tokens[sort]), Notation.value(tokens[sort]));
                if (isFit) {
                    CHECK.same(tokens[sort] + " at " + place, x.ways(), sort == OmitMarkup.DATA && place % 3 > 0 ? 1 : 0);
                } else {
                    CHECK.refused(tokens[sort] + " at " + place, Scenes.ISE, x::ways);
                }
            }
        }
        // what was erased is no token of the text any more
        for (int sort = 0; sort < tokens.length; sort++) {
            OmitMarkup y = new OmitMarkup();
            Notation.model(y, 0, "D*");
            Notation.write(y, "<0 'a >0 " + tokens[sort] + " " + tokens[sort] + " | | |");
            for (int place = 7; place >= 2; place--) y.erase(place);
            y.insert(2, OmitMarkup.END, 0);
            CHECK.same("without " + tokens[sort], y.ways(), 1);
        }
        // an entity that is empty, and a part that is ignored, are tokens all the same
        OmitMarkup x = new OmitMarkup();
        x.flip(0, OmitMarkup.IGNORE);
        Notation.write(x, "[0 ]");
        CHECK.refused("an ignored part", Scenes.ISE, x::ways);
    }

    private static void waysPutAtMostTwoIn() {
        CHECK.about("Ways: at most 2 in all");
        String[] tokens = "<0 <1 'a >1 <2 'b >2 >0".split(" ");
        // each tag is left out or not: those with at most two left out have just one way
        int[] tags = {0, 1, 3, 4, 6, 7};
        for (int out = 0; out < 64; out++) {
            StringBuilder text = new StringBuilder();
            int left = 8;
            for (int i = 0; i < tokens.length; i++) {
                boolean isOut = false;
                for (int k = 0; k < 6; k++) isOut |= tags[k] == i && (out >> k & 1) == 1;
                if (isOut) left--;
                else text.append(tokens[i]).append(' ');
            }
            if (left > 6) continue;
            CHECK.same("ways of " + text, ways(oneThenTwo(), text.toString().trim()), left == 6 ? 1 : 0);
        }
        OmitMarkup y = new OmitMarkup();
        Notation.model(y, 0, "D*");
        omitAll(y);
        CHECK.same("START and END", ways(y, "'a 'b 'c 'd 'e 'f"), 1);
        CHECK.same("the END", ways(y, "<0 'a 'b"), 1);
        CHECK.same("neither", ways(y, "<0 'a >0"), 1);
        Notation.model(y, 1, "D");
        y.empty(0);
        Notation.model(y, 0, "1");
        CHECK.same("four are missing", ways(y, "'a"), 0);
        CHECK.same("three are missing", ways(y, "<0 'a"), 0);
        CHECK.same("two are missing", ways(y, "<0 'a >0"), 1);
    }

    /** The root needs a 1 and a 2, each of which has a letter. */
    private static OmitMarkup oneThenTwo() {
        OmitMarkup x = new OmitMarkup();
        Notation.model(x, 0, "1 2");
        Notation.model(x, 1, "D");
        Notation.model(x, 2, "D");
        omitAll(x);
        return x;
    }

    private static void waysAtAnyPlaces() {
        CHECK.about("Ways: at any places, also behind the last token");
        OmitMarkup x = new OmitMarkup();
        Notation.model(x, 0, "1D*");
        x.omit(1, true, false);
        CHECK.same("of an EMPTY element at 1 to 3: none, one, two", ways(x, "<0 'a 'b >0"), 1 + 3 + 6);
        x.omit(0, false, true);
        CHECK.same("the END behind the last token", ways(x, "<0 'a 'b"), 1 + 3);
        CHECK.same("the END behind the only token", ways(x, "<0"), 1 + 1);
        x.omit(0, true, false);
        CHECK.same("the START ahead of the first token", ways(x, "'a 'b >0"), 1 + 3);
        CHECK.same("the START ahead of the only token", ways(x, ">0"), 1 + 1);
        x.omit(0, true, true);
        CHECK.same("both in no text", ways(x, ""), 1 + 1);
    }

    private static void waysAtUnlikePlaces() {
        CHECK.about("Ways: two that put tags in at unlike places are two ways, though they may come to the same row");
        OmitMarkup x = new OmitMarkup();
        Notation.model(x, 0, "1*");
        x.omit(1, true, false);
        CHECK.same("a 1 beside a 1", ways(x, "<0 <1 >0"), 1 + 2 + 3);
        CHECK.same("a 1 beside two", ways(x, "<0 <1 <1 >0"), 1 + 3 + 6);
        CHECK.same("alone: two at one place are one way", ways(x, "<0 >0"), 1 + 1 + 1);
        Notation.model(x, 1, "1?");
        x.omit(1, true, true);
        CHECK.same("a second 1: 3 ways beside the one, 4 within one another", ways(x, "<0 <1 >1 >0"), 1 + 3 + 4);
    }

    private static void waysOfTagsThatMayBeLeftOut() {
        CHECK.about("Ways: each of an element whose start tag, or end tag, may be left out");
        for (int e = 1; e <= 9; e++) {
            for (int which = 0; which < 4; which++) {
                OmitMarkup x = new OmitMarkup();
                Notation.model(x, 0, e + "?");
                Notation.model(x, e, "D");
                x.omit(e, which >= 2, which % 2 == 1);
                CHECK.same("both are missing", ways(x, "<0 'a >0"), which == 3 ? 1 : 0);
                CHECK.same("the END is missing", ways(x, "<0 <" + e + " 'a >0"), which % 2);
                CHECK.same("the START is missing", ways(x, "<0 'a >" + e + " >0"), which / 2);
                CHECK.same("none is missing", ways(x, "<0 <" + e + " 'a >" + e + " >0"), 1);
            }
        }
    }

    private static void waysAreReadWithoutErrors() {
        CHECK.about("Ways: such that it is read without errors");
        OmitMarkup x = new OmitMarkup();
        Notation.model(x, 0, "1*");
        Notation.model(x, 1, "2D?");
        x.omit(0, true, true);
        x.omit(1, true, true);
        CHECK.same("NOT_HERE", ways(x, "<0 <3 >0"), 0);
        CHECK.same("NOT_HERE behind the root", ways(x, "<0 >0 <1"), 0);
        CHECK.same("NOTHING", ways(x, "<0 >2 >0"), 0);
        CHECK.same("NOTHING, unless its START is put in", ways(x, "<0 >1 >0"), 1);
        // 20 open: the text is too short for them, so that DEEP is never met; SHORT and OPEN are
        Notation.model(x, 2, "D");
        CHECK.same("SHORT", ways(x, "<0 <1 <2 >2 >1 >0"), 0);
        CHECK.same("OPEN: the 2 may not be closed", ways(x, "<0 <1 <2 'a >1 >0"), 0);
        x.omit(2, false, true);
        CHECK.same("its END is put in", ways(x, "<0 <1 <2 'a >1 >0"), 1);
        x.except(0, 0, 1 << 2);
        CHECK.same("NOT_HERE: the 2 is excluded", ways(x, "<0 <1 <2 'a >1 >0"), 0);
    }

    private static void waysPutNoTagInByReading() {
        CHECK.about("Ways: and no tag is put in by reading it");
        OmitMarkup x = new OmitMarkup();
        Notation.model(x, 0, "1 1");
        Notation.model(x, 1, "D");
        omitAll(x);
        Notation.write(x, "'a 'b");
        CHECK.same("reading puts three STARTs and three ENDs in", x.errors() * 10 + x.endsPutIn(), 3);
        CHECK.same("which is no way", x.ways(), 0);
        CHECK.same("one END less to put in by hand than by reading", ways(x, "<0 <1 'a >1 <1 'b"), 1);
        CHECK.same("the root's alone", ways(x, "<1 'a >1 <1 'b >1"), 1);
        CHECK.same("a START put in by reading", ways(x, "<0 'a >1 'b >0"), 0);
        CHECK.same("two put in by hand", ways(x, "<0 'a >1 'b >1 >0"), 1);
    }
}
