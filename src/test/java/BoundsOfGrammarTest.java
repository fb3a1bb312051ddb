/**
 * Promises 1 to 5 and Terms, Grammar: each sentence that names a bound, just inside it and at it. What is beyond is
 * refused, see RefusalTest.
 */
final class BoundsOfGrammarTest {
    private static final Check CHECK = new Check("BoundsOfGrammarTest");
    private static final int ONE = OmitMarkup.ONE, OPTIONAL = OmitMarkup.OPTIONAL, STAR = OmitMarkup.STAR, PLUS = OmitMarkup.PLUS;
    /** The signs of ONE, OPTIONAL, STAR and PLUS in a model. */
    private static final String[] SIGNS = {"", "?", "*", "+"};
    private static final boolean[] BOTH = {false, true};

    private BoundsOfGrammarTest() { }

    public static void main(String[] args) {
        promise1EmptyText();
        promise1ElementsAreEmpty();
        promise1NoTagMayBeLeftOut();
        promise1NoneIncludesOrExcludes();
        promise1EntitiesAndSwitches();
        promise2Element0To9();
        promise2Set0To1023();
        promise2HasDataIfSetIsEmpty();
        promise2EachOccurrence();
        promise2UpToSixSlots();
        promise2BehindTheOthers();
        promise2TheLowestThing();
        promise3Empty();
        promise4Element0To9();
        promise4IncludesAndExcludes0To1023();
        promise4DataIsNoElement();
        promise5Element0To9();
        grammarGoesOnByThatSlot();
        grammarGoesOnByTheNextAndSoOn();
        grammarCanEnd();
        grammarRefusedTwoSlots();
        grammarRefusedOverOthers();
        grammarRefusedOverFourOthers();
        grammarElementsOfOneSetAreOneSlot();
        CHECK.end();
    }

    private static void reads(String what, OmitMarkup x, String text, String tree, String errors) {
        Notation.rewrite(x, text);
        CHECK.same(what + ": the tree of " + text, Notation.tree(x), tree);
        CHECK.same(what + ": the errors of " + text, Notation.errors(x), errors);
    }

    // ---- promise 1

    private static void promise1EmptyText() {
        CHECK.about("Promise 1: makes a reader with an empty text");
        String due = "0 anew 0 states 0/-1/0 things 0 ends 0 errors 0 normal 0 same true ways 1";
        CHECK.same("all questions", Scenes.questions(new OmitMarkup()), due);
        CHECK.same("all questions again", Scenes.questions(new OmitMarkup()), due);
    }

    private static void promise1ElementsAreEmpty() {
        CHECK.about("Promise 1: a grammar of EMPTY elements");
        for (int e = 0; e < 10; e++) {
            CHECK.same("empty(" + e + ")", new OmitMarkup().empty(e), 0);
        }
        OmitMarkup x = new OmitMarkup();
        reads("the EMPTY root", x, "<0 'a <0", "0()", "NOT_HERE@1 NOT_HERE@2");
        CHECK.same("it is closed at once, without a tag", x.open(1) * 10 + x.endsPutIn(), 0);
        for (int e = 1; e < 10; e++) {
            OmitMarkup y = new OmitMarkup();
            Notation.model(y, 0, e + "D*");
            reads("the EMPTY element", y, "<0 <" + e + " 'a >0", "0(" + e + "()a)", "");
        }
    }

    private static void promise1NoTagMayBeLeftOut() {
        CHECK.about("Grammar: at first no tag may be left out");
        OmitMarkup root = new OmitMarkup();
        Notation.model(root, 0, "D*");
        reads("the root's START", root, "'a", "", "NOT_HERE@0");
        reads("the root's END", root, "<0", "0()", "OPEN@1");
        for (int e = 1; e < 10; e++) {
            OmitMarkup x = new OmitMarkup();
            Notation.model(x, 0, "" + e);
            Notation.model(x, e, "D");
            reads("START of " + e, x, "<0 'a >0", "0()", "NOT_HERE@1 SHORT@2");
            reads("END of " + e, x, "<0 <" + e + " 'a >0", "0(" + e + "(a))", "OPEN@3");
            CHECK.same("ways", x.ways(), 0);
        }
    }

    private static void promise1NoneIncludesOrExcludes() {
        CHECK.about("Grammar: at first no element includes or excludes any");
        for (int e = 1; e < 10; e++) {
            for (int k = 1; k < 10; k++) {
                OmitMarkup x = new OmitMarkup();
                Notation.model(x, 0, e + "*");
                Notation.model(x, e, "D*");
                Notation.write(x, "<0 <" + e + " <" + k + " >" + e + " >0");
                CHECK.same(e + " includes " + k, Notation.errors(x), "NOT_HERE@2");
                OmitMarkup y = new OmitMarkup();
                Notation.model(y, 0, "123456789");
                Notation.model(y, e, "123456789?");
                Notation.write(y, "<0 <" + e + " <" + k);
                CHECK.same(e + " excludes " + k, y.things(), 3);
            }
        }
    }

    private static void promise1EntitiesAndSwitches() {
        CHECK.about("Texts: an entity is empty at first, a switch is INCLUDE, as at first");
        OmitMarkup x = new OmitMarkup();
        for (int i = 0; i < 6; i++) CHECK.same("clear(" + i + ")", x.clear(i), 0);
        for (int i = 0; i < 4; i++) CHECK.same("flip(" + i + ")", x.flip(i, OmitMarkup.PLAIN), OmitMarkup.INCLUDE);
        OmitMarkup y = new OmitMarkup();
        Notation.model(y, 0, "D*");
        reads("at first", y, "<0 &0 &1 &2 &3 &4 &5 [0 'a [1 'b [2 'c [3 'd ] ] ] ] >0", "0(abcd)", "");
    }

    // ---- promise 2

    private static void promise2Element0To9() {
        CHECK.about("Promise 2, element: 0 to 9");
        for (int e = 0; e < 10; e++) {
            OmitMarkup x = new OmitMarkup();
            CHECK.same("slot(" + e + ")", x.slot(e, 1 << 5, false, ONE), OmitMarkup.NONE);
            for (int other = 0; other < 10; other++) {
                CHECK.same("slots of " + other, x.empty(other), other == e ? 1 : 0);
            }
        }
    }

    private static void promise2Set0To1023() {
        CHECK.about("Promise 2, set: 0 to 1023: a set of elements, in which element k counts 2 to the power of k");
        for (int set : new int[] {0, 1, 2, 3, 4, 8, 16, 32, 64, 128, 255, 256, 257, 511, 512, 513, 1022, 1023}) {
            for (boolean hasData : BOTH) {
                if (set == 0 && !hasData) continue;
                OmitMarkup x = new OmitMarkup();
                CHECK.same("slot(0, " + set + ", " + hasData + ")", x.slot(0, set, hasData, ONE), OmitMarkup.NONE);
                Notation.write(x, "<0");
                CHECK.same("next(1) of " + set, x.next(1), hasData ? set + 1024 : set);
            }
        }
    }

    private static void promise2HasDataIfSetIsEmpty() {
        CHECK.about("Promise 2, hasData: it has to, if set is empty");
        for (int occurrence = ONE; occurrence <= PLUS; occurrence++) {
            OmitMarkup x = new OmitMarkup();
            CHECK.same("a slot of data", x.slot(0, 0, true, occurrence), OmitMarkup.NONE);
            OmitMarkup y = new OmitMarkup();
            CHECK.same("a slot of one element", y.slot(0, 1, false, occurrence), OmitMarkup.NONE);
        }
    }

    /** What a model goes on with, and whether it can end, with none, one and two taken of its slot. */
    private static void promise2EachOccurrence() {
        CHECK.about("Promise 2, occurrence: ONE, just one; OPTIONAL, one or none; STAR, any number; PLUS, one or more");
        String[][] errors = {
            {"SHORT@1", "", "NOT_HERE@2", "NOT_HERE@2 NOT_HERE@3"},
            {"", "", "NOT_HERE@2", "NOT_HERE@2 NOT_HERE@3"},
            {"", "", "", ""},
            {"SHORT@1", "", "", ""},
        };
        for (int occurrence = ONE; occurrence <= PLUS; occurrence++) {
            for (boolean isData : BOTH) {
                OmitMarkup x = new OmitMarkup();
                x.slot(0, isData ? 0 : 2, isData, occurrence);
                String thing = isData ? " 'a" : " <1";
                String text = "<0";
                for (int taken = 0; taken <= 3; taken++) {
                    Notation.rewrite(x, text + " >0");
                    CHECK.same(taken + " of occurrence " + occurrence, Notation.errors(x), errors[occurrence][taken]);
                    text = text + thing;
                }
            }
        }
    }

    private static void promise2UpToSixSlots() {
        CHECK.about("Promise 2: a row of up to 6 slots");
        OmitMarkup x = new OmitMarkup();
        for (int i = 1; i <= 6; i++) {
            CHECK.same("slot " + i, x.slot(0, 1 << i, false, ONE), OmitMarkup.NONE);
            CHECK.same("slot " + i + " of 9", x.slot(9, 1, false, ONE), OmitMarkup.NONE);
        }
        reads("six", x, "<0 <1 <2 <3 <4 <5 <6 >0", "0(1()2()3()4()5()6())", "");
        reads("six", x, "<0 <1 <2 <3 <4 <5 >0", "0(1()2()3()4()5())", "SHORT@6");
        reads("six", x, "<0 <1 <2 <3 <4 <5 <6 <6 >0", "0(1()2()3()4()5()6())", "NOT_HERE@7");
        CHECK.same("empty(0)", x.empty(0), 6);
        for (int i = 1; i <= 5; i++) {
            CHECK.same("slot " + i + " again", x.slot(0, 1 << i, false, i == 5 ? STAR : ONE), OmitMarkup.NONE);
        }
        CHECK.same("a sixth that is not added", x.slot(0, 1 << 5, false, ONE), 5);
        CHECK.same("a sixth that is", x.slot(0, 1 << 6, false, ONE), OmitMarkup.NONE);
        CHECK.refused("a seventh", Scenes.ISE, () -> x.slot(0, 1 << 7, false, ONE));
        CHECK.same("empty(0) again", x.empty(0), 6);
        CHECK.same("empty(9)", x.empty(9), 6);
    }

    private static void promise2BehindTheOthers() {
        CHECK.about("Promise 2: adds a slot to the model of an element, behind the others");
        OmitMarkup x = new OmitMarkup();
        Notation.model(x, 0, "1");
        reads("one slot", x, "<0 <1 <2 >0", "0(1())", "NOT_HERE@2");
        Notation.model(x, 0, "2");
        reads("two slots", x, "<0 <1 <2 >0", "0(1()2())", "");
        reads("two slots", x, "<0 <2 <1 >0", "0(1())", "NOT_HERE@1 SHORT@3");
    }

    private static int answer(String slots, int set, boolean hasData, int occurrence) {
        OmitMarkup x = new OmitMarkup();
        Notation.model(x, 4, slots);
        return x.slot(4, set, hasData, occurrence);
    }

    private static void promise2TheLowestThing() {
        CHECK.about("Promise 2: returns the lowest thing with which it could go on by two slots");
        for (int e = 0; e < 10; e++) {
            CHECK.same(e + " alone", answer(e + "?", 1 << e, false, ONE), e);
            CHECK.same(e + " and data", answer(e + "D?", 1 << e, true, ONE), e);
            CHECK.same(e + " and all above", answer("0123456789D*", 1023 & -(1 << e), true, ONE), e);
        }
        CHECK.same("data alone", answer("0123456789D+", 0, true, ONE), 10);
        CHECK.same("data, told as 10, behind elements that do not clash", answer("0D?", 1022, true, ONE), 10);
        CHECK.same("the lowest, of the first slot", answer("3? 7?", 1 << 3 | 1 << 7, false, ONE), 3);
        CHECK.same("the lowest, of the second slot", answer("7? 3?", 1 << 3 | 1 << 7, false, ONE), 3);
        CHECK.same("the lowest, of some taken and of none", answer("7+ 3?", 1 << 3 | 1 << 7, false, ONE), 3);
        CHECK.same("the other way", answer("3+ 7?", 1 << 3 | 1 << 7, false, ONE), 3);
        CHECK.same("only what clashes counts", answer("0 7?", 1 | 1 << 7, false, ONE), 7);
    }

    // ---- promises 3 to 5

    private static void promise3Empty() {
        CHECK.about("Promise 3: returns how many slots its model had");
        for (int e : new int[] {0, 1, 5, 9}) {
            for (int slots = 0; slots <= 6; slots++) {
                OmitMarkup x = new OmitMarkup();
                Notation.model(x, 3, "1 2");
                for (int i = 0; i < slots; i++) x.slot(e, 1 << 2, false, ONE);
                CHECK.same("empty(" + e + ") of " + slots, x.empty(e), slots);
                CHECK.same("empty(" + e + ") again", x.empty(e), 0);
                CHECK.same("another one stays", x.empty(3), 2);
            }
        }
        CHECK.about("Promise 3: makes an element EMPTY");
        OmitMarkup x = new OmitMarkup();
        Notation.model(x, 0, "1 2 3 4 5 6*");
        reads("ahead", x, "<0 <1", "0(1())", "SHORT@2 OPEN@2");
        x.empty(0);
        reads("EMPTY", x, "<0 <1", "0()", "NOT_HERE@1");
        CHECK.same("nothing clashes with what was", x.slot(0, 1 << 6, false, ONE), OmitMarkup.NONE);
        reads("a first slot", x, "<0 <6 >0", "0(6())", "");
    }

    private static void promise4Element0To9() {
        CHECK.about("Promise 4, element: 0 to 9");
        for (int e = 1; e < 10; e++) {
            int other = e == 9 ? 1 : e + 1;
            OmitMarkup x = new OmitMarkup();
            Notation.model(x, 0, "123456789*");
            Notation.model(x, e, "D*");
            x.except(e, 1 << other, 0);
            reads("included in " + e, x, "<0 <" + e + " <" + other + " >" + e + " >0", "0(" + e + "(" + other + "()))", "");
            x.except(0, 0, 1 << other);
            reads("excluded by the root", x, "<0 <" + e + " <" + other + " >" + e + " <" + other + " >0", "0(" + e + "())", "NOT_HERE@2 NOT_HERE@4");
            x.except(0, 0, 0);
            x.except(e, 0, 0);
            reads("none of it", x, "<0 <" + e + " <" + other + " >" + e + " <" + other + " >0", "0(" + e + "()" + other + "())", "NOT_HERE@2");
        }
    }

    private static void promise4IncludesAndExcludes0To1023() {
        CHECK.about("Promise 4, includes, excludes: 0 to 1023: a set of elements");
        for (int k = 0; k < 10; k++) {
            OmitMarkup x = new OmitMarkup();
            Notation.model(x, 0, "D*");
            x.except(0, 1 << k, 0);
            OmitMarkup y = new OmitMarkup();
            Notation.model(y, 0, "0123456789D*");
            y.except(0, 0, 1 << k);
            for (int e = 0; e < 10; e++) {
                Notation.rewrite(x, "<0 <" + e);
                CHECK.same(k + " alone is included, asked for " + e, x.things(), e == k ? 2 : 1);
                Notation.rewrite(y, "<0 <" + e);
                CHECK.same(k + " alone is excluded, asked for " + e, y.things(), e == k ? 1 : 2);
            }
        }
        OmitMarkup x = new OmitMarkup();
        Notation.model(x, 0, "D*");
        String all = "<0 <1 <2 <3 <4 <5 <6 <7 <8 <9 >0";
        x.except(0, 1023, 0);
        reads("1023 includes all", x, all, "0(1()2()3()4()5()6()7()8()9())", "");
        x.except(0, 1023, 1023);
        Notation.rewrite(x, all);
        CHECK.same("1023 excludes all", x.things() * 100 + x.errors(), 109);
        x.except(0, 0, 0);
        Notation.rewrite(x, all);
        CHECK.same("0 includes none", x.things() * 100 + x.errors(), 109);
    }

    private static void promise4DataIsNoElement() {
        CHECK.about("Grammar: it has a set of elements that it includes, and a set of those that it excludes");
        OmitMarkup x = new OmitMarkup();
        Notation.model(x, 0, "D?");
        x.except(0, 1023, 1023);
        reads("data is never excluded", x, "<0 'a >0", "0(a)", "");
        x.except(0, 1023, 0);
        reads("data is never included", x, "<0 'a 'b >0", "0(a)", "NOT_HERE@2");
    }

    private static void promise5Element0To9() {
        CHECK.about("Promise 5: sets which tags of an element may be left out");
        String[] rootErrors = {"NOT_HERE@0", "NOT_HERE@0", "OPEN@1", ""};
        String[] errors = {"NOT_HERE@1 SHORT@2", "NOT_HERE@1 SHORT@2", "OPEN@2", ""};
        for (int e = 0; e < 10; e++) {
            OmitMarkup x = new OmitMarkup();
            Notation.model(x, e, "D");
            if (e > 0) Notation.model(x, 0, "" + e);
            Notation.write(x, e == 0 ? "'a" : "<0 'a >0");
            // 0 neither, 1 the end alone, 2 the start alone, 3 both; each way, and back
            for (int which : new int[] {3, 0, 2, 1, 3, 2, 0, 1, 0}) {
                x.omit(e, which >= 2, which % 2 == 1);
                CHECK.same("omit(" + e + ", " + (which >= 2) + ", " + (which % 2 == 1) + ")", Notation.errors(x), (e == 0 ? rootErrors : errors)[which]);
            }
        }
    }

    // ---- models

    private static void grammarGoesOnByThatSlot() {
        CHECK.about("Grammar: by that slot, if it has the thing, and is STAR or PLUS, or none was taken of it");
        int[][] due = {{2, 4}, {2 + 4, 4}, {2 + 4, 2 + 4}, {2, 2 + 4}};
        for (int occurrence = ONE; occurrence <= PLUS; occurrence++) {
            OmitMarkup x = new OmitMarkup();
            Notation.model(x, 0, "1" + SIGNS[occurrence] + " 2");
            Notation.write(x, "<0 <1 <1 <2");
            CHECK.same("none taken of occurrence " + occurrence, x.next(1), due[occurrence][0]);
            CHECK.same("one taken of occurrence " + occurrence, x.next(2), due[occurrence][1]);
            CHECK.same("two asked of occurrence " + occurrence, x.next(3), due[occurrence][1]);
            CHECK.same("behind the last slot", x.next(4), 0);
        }
    }

    private static void grammarGoesOnByTheNextAndSoOn() {
        CHECK.about("Grammar: if that slot has had enough, it can go on with it by the next slot, and so on");
        OmitMarkup x = new OmitMarkup();
        Notation.model(x, 0, "1? 2* 3? 4* 5? D");
        Notation.write(x, "<0 <2 <5 'a");
        CHECK.same("from the first slot to the sixth", x.next(1), 62 + 1024);
        CHECK.same("from a STAR", x.next(2), 4 + 8 + 16 + 32 + 1024);
        CHECK.same("from an OPTIONAL", x.next(3), 1024);
        CHECK.same("from the last slot", x.next(4), 0);
        for (int at = 1; at <= 5; at++) {
            for (int occurrence : new int[] {ONE, PLUS}) {
                OmitMarkup y = new OmitMarkup();
                for (int i = 1; i <= 6; i++) y.slot(0, 1 << i, false, i == at ? occurrence : OPTIONAL);
                Notation.write(y, "<0");
                CHECK.same("no further than slot " + at, y.next(1), (2 << at) - 2);
            }
        }
    }

    private static void grammarCanEnd() {
        CHECK.about("Grammar: it can end if that slot, and all behind it, have had enough");
        for (int at = 1; at <= 6; at++) {
            for (int occurrence = ONE; occurrence <= PLUS; occurrence++) {
                OmitMarkup x = new OmitMarkup();
                for (int i = 1; i <= 6; i++) x.slot(0, 1 << i, false, i == at ? occurrence : i % 2 == 0 ? OPTIONAL : STAR);
                String due = occurrence == ONE || occurrence == PLUS ? "SHORT@" : "";
                Notation.write(x, "<0 >0");
                CHECK.same("slot " + at + " of occurrence " + occurrence, Notation.errors(x), due.isEmpty() ? "" : "SHORT@1");
                Notation.rewrite(x, "<0 <" + at + " >0");
                CHECK.same("one taken of slot " + at, Notation.errors(x), "");
            }
        }
        CHECK.about("Grammar: an EMPTY one can end, and go on with nothing");
        OmitMarkup x = new OmitMarkup();
        Notation.model(x, 0, "1");
        reads("an EMPTY element", x, "<0 <1 >0", "0(1())", "");
        CHECK.same("goes on with nothing: it is closed at once", x.open(2) * 10 + x.current(2), 10);
    }

    private static void grammarRefusedTwoSlots() {
        CHECK.about("Grammar: a model is refused if it can go on with the same thing by two slots: of two");
        for (int first = ONE; first <= PLUS; first++) {
            for (int second = ONE; second <= PLUS; second++) {
                String what = "1" + SIGNS[first] + " 1" + SIGNS[second];
                CHECK.same(what, answer("1" + SIGNS[first], 2, false, second), first == ONE ? OmitMarkup.NONE : 1);
                CHECK.same(what + ", of data", answer("D" + SIGNS[first], 0, true, second), first == ONE ? OmitMarkup.NONE : 10);
                CHECK.same(what + ", but unlike", answer("1" + SIGNS[first], 4, false, second), OmitMarkup.NONE);
            }
        }
    }

    private static void grammarRefusedOverOthers() {
        CHECK.about("Grammar: a model is refused if it can go on with the same thing by two slots: over one between");
        for (int first = ONE; first <= PLUS; first++) {
            for (int middle = ONE; middle <= PLUS; middle++) {
                for (int last = ONE; last <= PLUS; last++) {
                    boolean isRefused = first != ONE && (middle == OPTIONAL || middle == STAR);
                    String model = "1" + SIGNS[first] + " 2" + SIGNS[middle];
                    CHECK.same(model + " 1" + SIGNS[last], answer(model, 2, false, last), isRefused ? 1 : OmitMarkup.NONE);
                }
            }
        }
    }

    private static void grammarRefusedOverFourOthers() {
        CHECK.about("Grammar: a model is refused if it can go on with the same thing by two slots: the first and the sixth");
        CHECK.same("all OPTIONAL", answer("1? 2? 3? 4? 5?", 2, false, ONE), 1);
        CHECK.same("all STAR", answer("1* 2* 3* 4* 5*", 2, false, STAR), 1);
        CHECK.same("the first PLUS", answer("1+ 2? 3* 4? 5*", 2, false, PLUS), 1);
        CHECK.same("the first ONE", answer("1 2? 3? 4? 5?", 2, false, ONE), OmitMarkup.NONE);
        CHECK.same("the fifth and the sixth, behind ONEs", answer("1 2 3 4 5+", 32, false, ONE), 5);
        String[] between = {"1? 2 3? 4? 5?", "1? 2? 3 4? 5?", "1? 2? 3? 4+ 5?", "1? 2? 3? 4? 5+"};
        for (String model : between) {
            CHECK.same(model + " 1", answer(model, 2, false, ONE), OmitMarkup.NONE);
        }
    }

    private static void grammarElementsOfOneSetAreOneSlot() {
        CHECK.about("Grammar: an element allows the rows of elements and data that its slots read, one behind the other");
        OmitMarkup x = new OmitMarkup();
        Notation.model(x, 0, "12D 3+ 12D?");
        reads("each of a set", x, "<0 <1 <3 >0", "0(1()3())", "");
        reads("each of a set", x, "<0 'a <3 <3 <2 >0", "0(a3()3()2())", "");
        reads("one of a set only", x, "<0 <2 <1 <3 'b 'c >0", "0(2()3()b)", "NOT_HERE@2 NOT_HERE@5");
    }
}
