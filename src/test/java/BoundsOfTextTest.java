/**
 * Promises 9 to 16: each sentence that names a bound of the text and of the states of reading, just inside it and at
 * it. What is beyond is refused, see RefusalTest; how much an edit reads anew is in BoundsOfEditsTest.
 */
final class BoundsOfTextTest {
    private static final Check CHECK = new Check("BoundsOfTextTest");

    private BoundsOfTextTest() { }

    public static void main(String[] args) {
        promise9Place0ToHowManyThereAre();
        promise9ThereAreAtMost60();
        promise9StartAndEnd0To9();
        promise9DataBlankToTilde();
        promise9Entity0To5();
        promise9Mark0To3();
        promise9NotLookedAtForOthers();
        promise10EachPlace();
        promise10ReturnsHowManyThereAreThen();
        promise11FromNothingTo60();
        promise11AllIsReadAnew();
        promise11MakesItTheText();
        promise12Length();
        promise13ZeroAtFirst();
        promise14OpenUpTo20();
        promise15CurrentIsEachElementOrNone();
        promise16NextIsASet();
        promises14To16BehindSoManyTokens();
        promises14To16At60Tokens();
        anObjectIsUsedFor512Calls();
        CHECK.end();
    }

    /** The root has any elements and data; 1 has data, the others are EMPTY. */
    private static OmitMarkup any() {
        OmitMarkup x = new OmitMarkup();
        Notation.model(x, 0, "123456789D*");
        Notation.model(x, 1, "D*");
        return x;
    }

    private static void reads(OmitMarkup x, String text, String tree, String errors) {
        Notation.rewrite(x, text);
        CHECK.same("the tree of " + text, Notation.tree(x), tree);
        CHECK.same("the errors of " + text, Notation.errors(x), errors);
    }

    // ---- promise 9

    private static void promise9Place0ToHowManyThereAre() {
        CHECK.about("Promise 9, place: 0 to how many tokens there are");
        for (int place = 0; place <= 4; place++) {
            OmitMarkup x = any();
            CHECK.same("insert(0) of no text", x.insert(0, OmitMarkup.START, 0), 1);
            CHECK.same("insert(1) of one token", x.insert(1, OmitMarkup.DATA, 'a'), 2);
            CHECK.same("insert(2) of two tokens", x.insert(2, OmitMarkup.DATA, 'b'), 3);
            CHECK.same("insert(3) of three tokens", x.insert(3, OmitMarkup.DATA, 'c'), 4);
            CHECK.same("insert(" + place + ") of four tokens", x.insert(place, OmitMarkup.DATA, 'z'), 5);
            CHECK.same("the tree", Notation.tree(x), new String[] {"0(abc)", "0(zabc)", "0(azbc)", "0(abzc)", "0(abcz)"}[place]);
            CHECK.same("the errors", Notation.errors(x), place == 0 ? "NOT_HERE@0 OPEN@5" : "OPEN@5");
        }
    }

    private static void promise9ThereAreAtMost60() {
        CHECK.about("Texts: a text is a row of at most 60 tokens");
        for (int where = 0; where < 3; where++) {
            OmitMarkup x = any();
            x.insert(0, OmitMarkup.START, 0);
            for (int i = 2; i <= 60; i++) {
                int place = where == 0 ? 1 : where == 1 ? i - 1 : i / 2;
                CHECK.same("token " + i, x.insert(place, OmitMarkup.DATA, 'a'), i);
                CHECK.same("is read", x.things(), i);
            }
            CHECK.refused("token 61 at 0", Scenes.ISE, () -> x.insert(0, OmitMarkup.DATA, 'a'));
            CHECK.refused("token 61 at 60", Scenes.ISE, () -> x.insert(60, OmitMarkup.DATA, 'a'));
            CHECK.same("one less", x.erase(59), 59);
            CHECK.same("60 again", x.insert(0, OmitMarkup.END, 1), 60);
            CHECK.refused("token 61 again", Scenes.ISE, () -> x.insert(0, OmitMarkup.END, 1));
        }
    }

    private static void promise9StartAndEnd0To9() {
        CHECK.about("Promise 9, value: 0 to 9 for START and END");
        for (int value = 0; value <= 9; value++) {
            OmitMarkup x = new OmitMarkup();
            Notation.model(x, 0, "0123456789D*");
            if (value > 0) Notation.model(x, value, "D*");
            x.insert(0, OmitMarkup.START, 0);
            CHECK.same("START " + value, x.insert(1, OmitMarkup.START, value), 2);
            CHECK.same("it is open", x.current(2), value);
            CHECK.same("END " + value, x.insert(2, OmitMarkup.END, value), 3);
            CHECK.same("it is closed", x.open(3) * 10 + x.current(3), 10);
        }
    }

    private static void promise9DataBlankToTilde() {
        CHECK.about("Promise 9, value: ' ' to '~' as a number for DATA");
        for (int value = ' '; value <= '~'; value++) {
            OmitMarkup x = any();
            x.insert(0, OmitMarkup.START, 0);
            CHECK.same("DATA " + value, x.insert(1, OmitMarkup.DATA, value), 2);
            CHECK.same("its letter", x.letter(1), value);
        }
    }

    private static void promise9Entity0To5() {
        CHECK.about("Promise 9, value: 0 to 5 for ENTITY");
        for (int value = 0; value <= 5; value++) {
            OmitMarkup x = any();
            for (int i = 0; i <= 5; i++) x.entity(i, OmitMarkup.DATA, '0' + i);
            x.insert(0, OmitMarkup.START, 0);
            CHECK.same("ENTITY " + value, x.insert(1, OmitMarkup.ENTITY, value), 2);
            CHECK.same("the tree", Notation.tree(x), "0(" + value + ")");
        }
    }

    private static void promise9Mark0To3() {
        CHECK.about("Promise 9, value: 0 to 3 for MARK");
        for (int value = 0; value <= 3; value++) {
            OmitMarkup x = any();
            x.flip(value, OmitMarkup.IGNORE);
            Notation.write(x, "<0 'a ]");
            CHECK.same("MARK " + value, x.insert(1, OmitMarkup.MARK, value), 4);
            CHECK.same("the tree", Notation.tree(x), "0()");
        }
    }

    private static void promise9NotLookedAtForOthers() {
        CHECK.about("Promise 9, value: not looked at for others");
        for (int value : new int[] {Scenes.MIN, -1, 0, 10, 127, 65536, Scenes.MAX}) {
            OmitMarkup x = any();
            Notation.write(x, "<0 <1 >1");
            for (int sort : Scenes.LOOSE) {
                CHECK.same("sort " + sort + ", value " + value, x.insert(x.length(), sort, value), x.length());
            }
            CHECK.same("the tree", Notation.tree(x), "0(1()1()_)");
            CHECK.same("the errors", Notation.errors(x), "UNMARKED@6 OPEN@7");
        }
    }

    // ---- promise 10

    private static void promise10EachPlace() {
        CHECK.about("Promise 10, place: 0 to how many tokens there are, less 1");
        for (int place = 0; place < 5; place++) {
            OmitMarkup x = any();
            x.omit(0, true, true);
            Notation.write(x, "'a 'b 'c 'd 'e");
            CHECK.same("erase(" + place + ")", x.erase(place), 4);
            CHECK.same("the tree", Notation.tree(x), "0+(" + "abcde".replace("" + (char) ('a' + place), "") + ")");
        }
    }

    private static void promise10ReturnsHowManyThereAreThen() {
        CHECK.about("Promise 10: returns how many tokens there are then");
        for (int where = 0; where < 3; where++) {
            OmitMarkup x = any();
            for (int i = 0; i < 60; i++) x.insert(0, OmitMarkup.END, 1);
            for (int left = 59; left >= 0; left--) {
                CHECK.same("erase", x.erase(where == 0 ? 0 : where == 1 ? left : left / 2), left);
                CHECK.same("errors", x.errors(), left);
            }
            CHECK.refused("erase(0) of no text", Scenes.IOOBE, () -> x.erase(0));
        }
    }

    // ---- promise 11

    private static void promise11FromNothingTo60() {
        CHECK.about("Promise 11: makes the normal form the text, if that has at most 60 tokens");
        OmitMarkup none = any();
        CHECK.same("of no text", none.normalize(), 0);
        CHECK.same("of no text", none.length() + none.anew(), 0);
        Notation.write(none, ">0 'a <1");
        CHECK.same("of errors alone", none.normalize(), 0);
        CHECK.same("of errors alone", none.length() + none.errors() + none.anew(), 0);
        OmitMarkup one = new OmitMarkup();
        Notation.write(one, "<0 'a 'b");
        CHECK.same("of an EMPTY root", one.normalize(), 1);
        CHECK.same("is its START", Notation.normal(one) + one.errors(), "<00");
        for (int tokens : new int[] {2, 3, 4, 58, 59, 60}) {
            OmitMarkup x = Scenes.ofNormal(tokens);
            CHECK.same("normal()", x.normal(), tokens);
            CHECK.same("normalize() to " + tokens, x.normalize(), tokens);
            CHECK.same("length()", x.length(), tokens);
            CHECK.same("normal() then", x.normal(), tokens);
            CHECK.same("normalize() again", x.normalize(), tokens);
        }
        CHECK.refused("normalize() to 61", Scenes.ISE, () -> Scenes.ofNormal(61).normalize());
        OmitMarkup sixty = Scenes.sixty();
        CHECK.same("from 60 tokens to 3", sixty.normalize(), 3);
        CHECK.same("the text is short then", sixty.insert(3, OmitMarkup.LINE, 0), 4);
    }

    private static void promise11AllIsReadAnew() {
        CHECK.about("Promise 11: all of it is read anew");
        for (int tokens : new int[] {2, 3, 59, 60}) {
            OmitMarkup x = Scenes.ofNormal(tokens);
            x.normalize();
            CHECK.same("anew() of " + tokens, x.anew(), tokens);
            x.normalize();
            CHECK.same("anew() again, though nothing changes", x.anew(), tokens);
        }
    }

    private static void promise11MakesItTheText() {
        CHECK.about("Promise 11: makes the normal form the text");
        OmitMarkup x = any();
        x.omit(0, true, true);
        x.omit(1, false, true);
        Notation.entity(x, 0, "'~ <1 |");
        Notation.write(x, "<2 &0 'b <3 ] >9");
        CHECK.same("the tree ahead", Notation.tree(x), "0+(2()~1(b)3())");
        CHECK.same("the errors ahead", Notation.errors(x), "UNMARKED@4 NOTHING@5");
        CHECK.same("normalize()", x.normalize(), 8);
        CHECK.same("the tree behind: no tag is put in", Notation.tree(x), "0(2()~1(b)3())");
        CHECK.same("the errors behind", Notation.errors(x), "");
        CHECK.same("the places behind", Notation.places(x), "0 1 2 3 4 6");
        // what is short stays so
        OmitMarkup y = new OmitMarkup();
        Notation.model(y, 0, "1 D");
        y.omit(0, true, true);
        Notation.write(y, "<1");
        CHECK.same("normalize() of what is short", y.normalize(), 3);
        CHECK.same("its errors", Notation.errors(y), "SHORT@2");
    }

    // ---- promises 12 and 13

    private static void promise12Length() {
        CHECK.about("Promise 12: returns how many tokens the text has");
        OmitMarkup x = any();
        CHECK.same("at first", x.length(), 0);
        for (int i = 1; i <= 60; i++) {
            x.insert(i / 2, OmitMarkup.ENTITY, 0);
            CHECK.same("behind insert()", x.length(), i);
        }
        CHECK.refused("a token too many", Scenes.ISE, () -> x.insert(0, OmitMarkup.ENTITY, 0));
        CHECK.same("behind a call that throws", x.length(), 60);
        Notation.entity(x, 0, "'a 'b");
        CHECK.same("what an ENTITY stands for does not count", x.length(), 60);
        for (int i = 59; i >= 0; i--) {
            x.erase(i);
            CHECK.same("behind erase()", x.length(), i);
        }
    }

    private static void promise13ZeroAtFirst() {
        CHECK.about("Promise 13: 0 at first");
        CHECK.same("anew()", new OmitMarkup().anew(), 0);
        OmitMarkup x = new OmitMarkup();
        Notation.model(x, 0, "D*");
        CHECK.same("of no tokens", x.anew(), 0);
        x.insert(0, OmitMarkup.START, 0);
        CHECK.same("of one", x.anew(), 1);
    }

    // ---- promises 14 to 16

    private static void promise14OpenUpTo20() {
        CHECK.about("Promise 14: returns how many elements are open behind so many tokens");
        OmitMarkup x = new OmitMarkup();
        Notation.model(x, 0, "1D*");
        Notation.model(x, 1, "1D*");
        x.insert(0, OmitMarkup.START, 0);
        for (int i = 1; i < 25; i++) x.insert(i, OmitMarkup.START, 1);
        for (int place = 0; place <= 25; place++) {
            CHECK.same("open(" + place + ")", x.open(place), Math.min(place, 20));
        }
        for (int i = 25; i < 50; i++) x.insert(i, OmitMarkup.EMPTY_END, 0);
        for (int place = 25; place <= 50; place++) {
            CHECK.same("open(" + place + ")", x.open(place), Math.max(45 - place, 0));
        }
    }

    private static void promise15CurrentIsEachElementOrNone() {
        CHECK.about("Promise 15: returns the element; NONE if none is open");
        for (int e = 0; e <= 9; e++) {
            OmitMarkup x = new OmitMarkup();
            Notation.model(x, 0, "0123456789*");
            if (e > 0) Notation.model(x, e, "D*");
            Notation.write(x, "<0 <" + e + " >" + e + " >0 <0");
            CHECK.same("ahead of all", x.current(0), OmitMarkup.NONE);
            CHECK.same("the root", x.current(1), 0);
            CHECK.same("current(2)", x.current(2), e);
            CHECK.same("the root again", x.current(3), 0);
            CHECK.same("behind the root", x.current(4), OmitMarkup.NONE);
            CHECK.same("behind what is left out", x.current(5), OmitMarkup.NONE);
        }
        OmitMarkup x = new OmitMarkup();
        Notation.write(x, "<0");
        CHECK.same("an EMPTY root is not open", x.current(1), OmitMarkup.NONE);
    }

    private static void promise16NextIsASet() {
        CHECK.about("Promise 16: element k counts 2 to the power of k, data 1024; 0 if none is open");
        for (int k = 0; k <= 10; k++) {
            OmitMarkup x = new OmitMarkup();
            x.slot(0, k < 10 ? 1 << k : 0, k == 10, OmitMarkup.OPTIONAL);
            x.insert(0, OmitMarkup.START, 0);
            CHECK.same("next(1) of " + k, x.next(1), 1 << k);
            x.insert(1, OmitMarkup.END, 0);
            CHECK.same("next(0), next(2): none is open", x.next(0) + x.next(2), 0);
        }
        OmitMarkup x = new OmitMarkup();
        x.slot(0, 1023, true, OmitMarkup.STAR);
        x.insert(0, OmitMarkup.START, 0);
        CHECK.same("all", x.next(1), 2047);
        CHECK.about("Promise 16: with what the model of the current element can go on");
        x.except(0, 1023, 1023);
        CHECK.same("whatever is excluded", x.next(1), 2047);
        x.empty(0);
        Notation.model(x, 0, "1 2?");
        CHECK.same("whatever is included", x.next(1), 2);
        x.insert(1, OmitMarkup.START, 3);
        CHECK.same("whatever was included", x.next(2), 2);
        x.except(0, 0, 0);
        Notation.rewrite(x, "<0 <1 <2 <1");
        CHECK.same("open, but nothing to go on with", x.next(3) * 10 + x.open(3), 1);
        CHECK.same("behind what is left out", x.next(4) * 10 + x.open(4), 1);
    }

    private static void promises14To16BehindSoManyTokens() {
        CHECK.about("Promises 14 to 16: behind so many tokens: the ends that come behind the last one are not yet");
        OmitMarkup x = any();
        x.omit(0, true, true);
        Notation.entity(x, 0, "'a <1 'b");
        Notation.write(x, "&0");
        CHECK.same("ahead of the first", x.open(0) * 100 + x.current(0), -1);
        CHECK.same("behind the last", x.open(1) * 100 + x.current(1), 201);
        CHECK.same("the model of that", x.next(1), 1024);
        CHECK.same("all ends put in", x.endsPutIn(), 2);
    }

    private static void promises14To16At60Tokens() {
        CHECK.about("Promises 14 to 16, place: 0 to how many tokens there are: 60");
        OmitMarkup x = any();
        x.insert(0, OmitMarkup.START, 0);
        for (int i = 1; i < 59; i++) x.insert(i, OmitMarkup.DATA, 'a');
        x.insert(59, OmitMarkup.START, 1);
        CHECK.same("place 59", x.open(59) * 10 + x.current(59), 10);
        CHECK.same("place 60", x.open(60) * 10 + x.current(60), 21);
        CHECK.same("next(60)", x.next(60), 1024);
        for (int place : Scenes.outside(0, 60)) {
            CHECK.refused("open(" + place + ")", Scenes.IOOBE, () -> x.open(place));
        }
        x.erase(59);
        CHECK.refused("place 60 of 59", Scenes.IOOBE, () -> x.open(60));
        CHECK.refused("place 60 of 59", Scenes.IOOBE, () -> x.current(60));
        CHECK.refused("place 60 of 59", Scenes.IOOBE, () -> x.next(60));
    }

    private static void anObjectIsUsedFor512Calls() {
        CHECK.about("What it is: an object is used for at most 512 calls");
        OmitMarkup x = any();
        x.omit(0, true, true);
        // 3 calls so far, 507 here, and two behind
        for (int i = 0; i < 254; i++) {
            CHECK.same("an insert", x.insert(0, OmitMarkup.DATA, 'a'), 1);
            if (i < 253) CHECK.same("an erase", x.erase(0), 0);
        }
        CHECK.same("a call", x.things(), 2);
        CHECK.same("the last call", x.normal(), 3);
    }
}
