/** The rules of reading, in the order of the document. */
final class ReadingTest {
    private static final Check CHECK = new Check("ReadingTest");

    private ReadingTest() { }

    public static void main(String[] args) {
        modelsAreReadOn();
        exceptionsToModels();
        theRoot();
        aRootWithinTheRoot();
        startTagsPutIn();
        startTagsNotPutIn();
        atMostEightForOneThing();
        endTagsPutIn();
        closingUpTo();
        emptyTags();
        lines();
        twentyOpen();
        threeHundredThings();
        threeHundredByTagsPutIn();
        placesOfErrors();
        CHECK.end();
    }

    private static void read(OmitMarkup x, String text, String tree, String errors) {
        Notation.rewrite(x, text);
        CHECK.same("the tree of " + text, Notation.tree(x), tree);
        CHECK.same("the errors of " + text, Notation.errors(x), errors);
    }

    private static void modelsAreReadOn() {
        OmitMarkup x = new OmitMarkup();
        Notation.model(x, 0, "1 2? 3* 4+ D");
        read(x, "<0 <1 <2 <3 <3 <4 <4 'a >0", "0(1()2()3()3()4()4()a)", "");
        read(x, "<0 <1 <4 'a >0", "0(1()4()a)", "");
        read(x, "<0 <1 <1 <4 'a >0", "0(1()4()a)", "NOT_HERE@2");
        read(x, "<0 <1 <2 <2 <4 'a >0", "0(1()2()4()a)", "NOT_HERE@3");
        read(x, "<0 <1 <3 <2 <4 'a >0", "0(1()3()4()a)", "NOT_HERE@3");
        read(x, "<0 <1 'a <4 >0", "0(1()4())", "NOT_HERE@2 SHORT@4");
        read(x, "<0 <4 >0", "0()", "NOT_HERE@1 SHORT@2");
        read(x, "<0 <1 <4 'a 'b >0", "0(1()4()a)", "NOT_HERE@4");
        // a slot with several things is one slot; a thing again by a later slot
        OmitMarkup y = new OmitMarkup();
        Notation.model(y, 0, "12D 1 D+");
        read(y, "<0 'a <1 'b 'c >0", "0(a1()bc)", "");
        read(y, "<0 <1 <1 'b >0", "0(1()1()b)", "");
        read(y, "<0 <2 <1 >0", "0(2()1())", "SHORT@3");
    }

    private static void exceptionsToModels() {
        OmitMarkup x = new OmitMarkup();
        Notation.model(x, 0, "1 2");
        Notation.model(x, 1, "13D*");
        Notation.model(x, 3, "1D*");
        // 5 is included below the root, wherever; the models stay as they were
        x.except(0, 1 << 5, 0);
        read(x, "<0 <5 <1 <5 'a <5 >1 <5 <2 <5 >0", "0(5()1(5()a5())5()2()5())", "");
        // what the model goes on with is no inclusion
        x.except(0, 1 << 1, 0);
        read(x, "<0 <1 >1 <1 >1 <2 <1 >1 >0", "0(1()1()2()1())", "");
        // an exclusion holds for all that is below, models and inclusions
        x.except(0, 1 << 5, 0);
        x.except(1, 0, 1 << 3 | 1 << 5);
        read(x, "<0 <1 <3 <1 <5 'a >1 >1 <5 <2 >0", "0(1(1(a))5()2())", "NOT_HERE@2 NOT_HERE@4");
        x.except(3, 1 << 3, 0);
        x.except(1, 0, 0);
        read(x, "<0 <1 <3 <1 <3 >3 >1 >3 >1 <3 >0", "0(1(3(1(3()))))", "NOT_HERE@9 SHORT@10");
        // an element that excludes and includes the same: excluded
        x.except(0, 1 << 6, 1 << 6);
        read(x, "<0 <6 >0", "0()", "NOT_HERE@1 SHORT@2");
        // data is neither; the excluded element is left out, and not what it would have had
        x.except(0, 1023, 1023);
        read(x, "<0 <1 'a >1 >0", "0()", "NOT_HERE@1 NOT_HERE@2 NOTHING@3 SHORT@4");
    }

    private static void theRoot() {
        OmitMarkup x = new OmitMarkup();
        Notation.model(x, 0, "D*");
        x.except(0, 1 << 3, 0);
        read(x, "'a <3 <0 'b >0 'c <0 >0", "0(b)", "NOT_HERE@0 NOT_HERE@1 NOT_HERE@5 NOT_HERE@6 NOTHING@7");
        // the root is accepted, whatever it excludes itself
        x.except(0, 0, 1);
        read(x, "<0 <0", "0()", "NOT_HERE@1 OPEN@2");
        x.omit(0, true, false);
        read(x, "'a", "0+(a)", "OPEN@1");
        // it is put in though the thing is left out then
        read(x, "<3", "0+()", "NOT_HERE@0 OPEN@1");
        read(x, ">0", "", "NOTHING@0");
        read(x, "<0 >0 'a", "0()", "NOT_HERE@2");
        // an EMPTY root is put in and closed at once
        x.empty(0);
        read(x, "'a 'b", "0+()", "NOT_HERE@0 NOT_HERE@1");
        CHECK.same("without an end tag", x.endsPutIn(), 0);
    }

    /** The document calls that the root which is the first thing of the tree: another 0 below it is none. */
    private static void aRootWithinTheRoot() {
        OmitMarkup x = new OmitMarkup();
        Notation.model(x, 0, "01D*");
        x.omit(0, false, true);
        x.omit(1, false, true);
        read(x, "<0 <0 'a >0 'b >0 'c", "0(0(a)b)", "NOT_HERE@6");
        x.except(0, 0, 0);
        Notation.model(x, 2, "0");
        x.empty(0);
        Notation.model(x, 0, "2? 1?");
        read(x, "<0 <2 <0 <1 <1", "0(2(0(1())))", "NOT_HERE@4 OPEN@5");
        read(x, "<0 <2 <0 <1 >2 <1", "0(2(0(1()))1())", "");
        // rule 5 closes such a 0, as it is not the first thing
        x.omit(2, false, true);
        read(x, "<0 <2 <0 <1 <1", "0(2(0(1()))1())", "");
        CHECK.same("the ends of 0 and 2, and that of the root", x.endsPutIn(), 3);
    }

    private static void startTagsPutIn() {
        OmitMarkup x = new OmitMarkup();
        Notation.model(x, 0, "1 2");
        Notation.model(x, 1, "3");
        Notation.model(x, 3, "4");
        Notation.model(x, 2, "D+");
        Notation.model(x, 4, "5D*");
        for (int e = 0; e < 10; e++) x.omit(e, true, true);
        read(x, "'a", "0+(1+(3+(4+(a))))", "SHORT@1");
        CHECK.same("ends put in", x.endsPutIn(), 4);
        read(x, "<5", "0+(1+(3+(4+(5()))))", "SHORT@1");
        // what is asked for is no tag that is put in; then the rest is
        read(x, "<1 'a", "0+(1(3+(4+(a))))", "SHORT@2");
        read(x, "<3", "0+(1+(3()))", "SHORT@1 SHORT@1");
        // 4 ends, 3 ends, 1 ends for the 2, which is accepted
        read(x, "'a <2 'b", "0+(1+(3+(4+(a)))2(b))", "");
        // 4, 3, 1 are put in and ended, as the root needs them ahead of its 2
        read(x, "<2 'b", "0+(1+(3+(4+()))2(b))", "");
        CHECK.same("ends put in", x.endsPutIn(), 5);
        CHECK.same("places", Notation.places(x), "0 0 0 0 0 1");
        // and all is left out behind the 2: it is put in at the end of the root's model
        read(x, "<1 >1 'b", "0+(1()2+(b))", "SHORT@1");
        // for a thing that is left out in the end, too
        read(x, "<9", "0+(1+(3+(4+()))2+())", "NOT_HERE@0 SHORT@1");
    }

    private static void startTagsNotPutIn() {
        // two things to go on with, or one that may lack, or data alone
        OmitMarkup x = new OmitMarkup();
        for (int e = 0; e < 10; e++) x.omit(e, true, true);
        Notation.model(x, 1, "D*");
        Notation.model(x, 0, "12");
        read(x, "<0 'a", "0()", "NOT_HERE@1 SHORT@2");
        x.empty(0);
        Notation.model(x, 0, "1?");
        read(x, "<0 'a", "0()", "NOT_HERE@1");
        x.empty(0);
        Notation.model(x, 0, "1? 2");
        read(x, "<0 'a", "0()", "NOT_HERE@1 SHORT@2");
        x.empty(0);
        Notation.model(x, 0, "1*");
        read(x, "<0 'a", "0()", "NOT_HERE@1");
        x.empty(0);
        Notation.model(x, 0, "1+");
        read(x, "<0 'a", "0(1+(a))", "");
        read(x, "<0 <1 >1 'a", "0(1())", "NOT_HERE@3");
        x.empty(0);
        Notation.model(x, 0, "D 1");
        read(x, "<0 <2", "0()", "NOT_HERE@1 SHORT@2");
        // one behind what has had enough, if the model cannot end
        read(x, "<0 'a 'b", "0(a1+(b))", "");
        // EMPTY elements, excluded ones, and such as may not be left out are not put in
        x.empty(0);
        Notation.model(x, 0, "2");
        read(x, "<0 'a", "0()", "NOT_HERE@1 SHORT@2");
        x.empty(0);
        Notation.model(x, 0, "1");
        x.except(0, 0, 2);
        read(x, "<0 'a", "0()", "NOT_HERE@1 SHORT@2");
        x.except(0, 0, 0);
        x.omit(1, false, true);
        read(x, "<0 'a", "0()", "NOT_HERE@1 SHORT@2");
        x.omit(1, true, false);
        read(x, "<0 'a", "0(1+(a))", "OPEN@2");
        // an inclusion is accepted ahead of all that
        x.except(0, 4, 0);
        read(x, "<0 <2 'a", "0(2()1+(a))", "OPEN@3");
    }

    private static void atMostEightForOneThing() {
        OmitMarkup x = new OmitMarkup();
        for (int e = 0; e < 9; e++) {
            Notation.model(x, e, "123456789".substring(e, e + 1));
            x.omit(e, true, true);
        }
        Notation.model(x, 9, "D");
        x.omit(9, true, true);
        // the root does not count, nor what comes for another thing
        read(x, "'a", "0+(1+(2+(3+(4+(5+(6+(7+(8+()))))))))", "NOT_HERE@0 SHORT@1");
        Notation.write(x, "'b");
        CHECK.same("the ninth comes for the next thing", Notation.tree(x), "0+(1+(2+(3+(4+(5+(6+(7+(8+(9+(b))))))))))");
        read(x, "<1 'a", "0+(1(2+(3+(4+(5+(6+(7+(8+(9+(a)))))))))" + ")", "");
        // behind eight, the end tags are still put in
        OmitMarkup y = new OmitMarkup();
        y.omit(0, true, true);
        y.omit(1, true, true);
        y.omit(2, true, true);
        Notation.model(y, 1, "D?");
        Notation.model(y, 2, "1 1 1 1 1 1");
        Notation.model(y, 0, "2 2 3");
        read(y, "<3", "0+(2+(1+()1+()1+()1+()1+()1+())2+())", "NOT_HERE@0 SHORT@1 SHORT@1");
        CHECK.same("ends put in", y.endsPutIn(), 9);
        Notation.write(y, "<3");
        CHECK.same("the rest comes for the next thing", Notation.tree(y), "0+(2+(1+()1+()1+()1+()1+()1+())2+(1+()1+()1+()1+()1+()1+())3())");
        CHECK.same("errors", Notation.errors(y), "NOT_HERE@0");
    }

    private static void endTagsPutIn() {
        OmitMarkup x = new OmitMarkup();
        Notation.model(x, 0, "1* 2*");
        Notation.model(x, 1, "3 4*");
        Notation.model(x, 2, "D+");
        x.omit(0, true, true);
        x.omit(1, false, true);
        x.omit(2, false, true);
        read(x, "<0 <1 <3 <1 <3 <4 <2 'a", "0(1(3())1(3()4())2(a))", "");
        CHECK.same("ends put in", x.endsPutIn(), 4);
        // its model cannot end
        read(x, "<0 <1 <2 <3 <2", "0(1(3())2())", "NOT_HERE@2 SHORT@5");
        // its end tag may not be left out
        x.omit(1, false, false);
        read(x, "<0 <1 <3 <1 >1 <1", "0(1(3())1())", "NOT_HERE@3 SHORT@6 OPEN@6");
        // it is closed though the thing is left out in the end; the root never is
        x.omit(1, false, true);
        read(x, "<0 <1 <3 <9 <4", "0(1(3()))", "NOT_HERE@3 NOT_HERE@4");
        CHECK.same("the root is open yet", x.open(4) * 10 + x.current(4), 10);
        CHECK.same("of 1, and of the root", x.endsPutIn(), 2);
    }

    private static void closingUpTo() {
        OmitMarkup x = new OmitMarkup();
        Notation.model(x, 0, "1 D?");
        Notation.model(x, 1, "1? 2? D?");
        Notation.model(x, 2, "3 D");
        x.omit(1, false, true);
        // the one that was opened last
        read(x, "<0 <1 <1 <1 >1 'a >1 'b >1 'c >0", "0(1(1(1()a)b)c)", "");
        // those within are put in: their end tag may lack, or not; what is short comes first
        read(x, "<0 <1 <1 <2 >0", "0(1(1(2())))", "SHORT@4 OPEN@4");
        CHECK.same("of 2 and both 1", x.endsPutIn(), 3);
        x.omit(2, false, true);
        read(x, "<0 <1 <1 <2 >0", "0(1(1(2())))", "SHORT@4");
        x.omit(1, false, false);
        read(x, "<0 <1 <1 <2 <3 'a >1 >1 >0", "0(1(1(2(3()a))))", "");
        read(x, "<0 <1 <1 <2 >1 >1 >0", "0(1(1(2())))", "SHORT@4");
        read(x, "<0 >0 >0", "0()", "SHORT@1 NOTHING@2");
        read(x, "<0 >1 >2 <1", "0(1())", "NOTHING@1 NOTHING@2 OPEN@4 OPEN@4");
        // behind the last token the root's end tag is put in like the others
        read(x, "<0", "0()", "SHORT@1 OPEN@1");
        CHECK.same("of the root", x.endsPutIn(), 1);
        x.omit(0, true, true);
        read(x, "<0", "0()", "SHORT@1");
        // an END of an EMPTY element ends nothing
        read(x, "<0 <1 <2 <3 >3 'a >0", "0(1(2(3()a)))", "NOTHING@4 OPEN@6");
    }

    private static void emptyTags() {
        OmitMarkup x = new OmitMarkup();
        Notation.model(x, 0, "12D*");
        Notation.model(x, 1, "3*");
        Notation.model(x, 2, "D*");
        x.omit(0, true, true);
        x.omit(1, true, true);
        x.omit(2, true, true);
        read(x, "<> >> <0", "0()", "NOTHING@0 NOTHING@1");
        read(x, "<2 'a >2 <> 'b >> 'c <> >0 >> <>", "0+(2(a)2(b)c2())", "NOTHING@9 NOT_HERE@10");
        // an EMPTY one was opened last; then one that cannot be read
        read(x, "<1 <3 <> >1 <>", "0+(1(3()3()))", "NOT_HERE@4");
        // one that was put in was opened last
        OmitMarkup y = new OmitMarkup();
        Notation.model(y, 0, "1+");
        Notation.model(y, 1, "D*");
        y.omit(0, true, true);
        y.omit(1, true, true);
        read(y, "'a <> 'b >> >>", "0+(1+(a)1(b))", "");
        // the root again
        read(y, "<0 <>", "0(1+())", "NOT_HERE@1");
    }

    private static void lines() {
        OmitMarkup x = new OmitMarkup();
        Notation.model(x, 0, "123D*");
        Notation.model(x, 1, "D*");
        Notation.entity(x, 0, "| 'e |");
        Notation.entity(x, 1, "<2 | | >1");
        x.omit(0, true, true);
        read(x, "<0 | <1 | 'a | >1 | 'b | >0", "0(1(a)_b)", "");
        read(x, "<0 | | | >0", "0(_)", "");
        read(x, "<1 | 'a | >> | <> | 'b | >1 |", "0+(1(a)_1(b)_)", "");
        // right behind a START, even if that was an error; not behind an END, or ahead of a START
        read(x, "<0 <9 | >1 | <2 | 'a", "0(_2()a)", "NOT_HERE@1 NOTHING@3");
        // the row of the entity is another row
        read(x, "<0 &0 >0", "0(_e_)", "");
        read(x, "<1 &0 >1", "0+(1(_e_))", "");
        read(x, "<0 <1 &1 | >1", "0(1())", "NOT_HERE@2 NOTHING@4");
        read(x, "<0 &1 | >1", "0(2())", "NOTHING@1 NOTHING@3");
        read(x, "<0 | &0 | &0", "0(_e___e_)", "");
        // a MARK stands between
        read(x, "<0 [0 | ] >0", "0(_)", "");
    }

    private static void twentyOpen() {
        OmitMarkup x = new OmitMarkup();
        Notation.model(x, 0, "1");
        Notation.model(x, 1, "123D*");
        Notation.model(x, 2, "3");
        Notation.model(x, 3, "D*");
        for (int e = 0; e < 10; e++) x.omit(e, true, true);
        StringBuilder text = new StringBuilder("<0");
        for (int i = 1; i < 20; i++) text.append(" <1");
        Notation.write(x, text.toString());
        CHECK.same("20 are open", x.open(20) + x.errors(), 20);
        Notation.write(x, "<1 <9 'a >1 <2 'b");
        // 2 is open as the 20th: 3 cannot be put in for the data
        CHECK.same("errors", Notation.errors(x), "DEEP@20 DEEP@21 NOT_HERE@25 SHORT@26");
        CHECK.same("the data among 20 is read", x.kind(20), 10);
        CHECK.same("the element behind an END is read", x.kind(21), 2);
        CHECK.same("ends put in", x.endsPutIn(), 20);
        CHECK.same("things", x.things(), 22);
        // an EMPTY one, too, is left out where 20 are open
        x.empty(3);
        Notation.write(x, "<3 >2 <3");
        CHECK.same("the EMPTY element", Notation.errors(x), "DEEP@20 DEEP@21 NOT_HERE@25 DEEP@26 SHORT@27");
        CHECK.same("behind an END it is read", x.kind(22), 3);
    }

    private static void threeHundredThings() {
        OmitMarkup x = new OmitMarkup();
        Notation.model(x, 0, "1D*");
        Notation.model(x, 1, "D*");
        Notation.entity(x, 0, "&1 &1 &1 &1 &1 &1");
        Notation.entity(x, 1, "'a 'b 'c 'd 'e 'f");
        x.omit(0, true, true);
        x.omit(1, true, true);
        Notation.write(x, "&0 &0 &0 &0 &0 &0 &0 &0 &1 'g 'h 'i 'j");
        CHECK.same("299 things", x.things(), 299);
        Notation.write(x, "<1 'k <1 <9 >1 | 'm >4 [2 >0 <0");
        CHECK.same("300 things", x.things() * 10 + x.kind(299), 3001);
        CHECK.same("all is left out then, but ENDs", Notation.errors(x), "DEEP@14 DEEP@15 DEEP@16 DEEP@18 DEEP@19 NOTHING@20 DEEP@23 UNMARKED@24");
        CHECK.same("the root is ended", x.open(23), 0);
        CHECK.same("none is put in", x.endsPutIn(), 0);
        // nothing is closed for a thing that finds the tree full
        Notation.rewrite(x, "&0 &0 &0 &0 &0 &0 &0 &0 &1 'g 'h 'i 'j <1 <1");
        CHECK.same("1 is open yet", x.open(15), 2);
        CHECK.same("both end tags are put in behind all", x.endsPutIn(), 2);
    }

    private static void threeHundredByTagsPutIn() {
        OmitMarkup x = new OmitMarkup();
        Notation.model(x, 0, "5 1 4");
        Notation.model(x, 1, "2");
        Notation.model(x, 2, "3");
        Notation.model(x, 3, "D*");
        Notation.model(x, 5, "D*");
        Notation.entity(x, 0, "&1 &1 &1 &1 &1 &1");
        Notation.entity(x, 1, "'a 'b 'c 'd 'e 'f");
        for (int e = 0; e < 10; e++) x.omit(e, true, true);
        Notation.write(x, "&0 &0 &0 &0 &0 &0 &0 &0 &1 'g 'h <2");
        // 0, 5 and 296 letters; 5 is ended and 1 put in for the 2, which is the last thing
        CHECK.same("300 things", x.things() * 100 + x.kind(298) * 10 + x.kind(299), 30012);
        CHECK.same("no 3 in the 2, no 4 behind", Notation.errors(x), "SHORT@12 SHORT@12");
        x.insert(0, OmitMarkup.DATA, 'z');
        CHECK.same("one letter more: the 2 is left out, 1 was put in", Notation.errors(x), "DEEP@12 SHORT@13 SHORT@13");
        CHECK.same("300 things again", x.things() * 10 + x.kind(299), 3001);
        CHECK.same("1 is the last one", x.isPutIn(299), true);
        x.insert(0, OmitMarkup.DATA, 'z');
        CHECK.same("one letter more: nothing is put in, nor ended", Notation.errors(x), "DEEP@13 SHORT@14");
        CHECK.same("5 is open yet", x.open(14) * 10 + x.current(14), 25);
    }

    private static void placesOfErrors() {
        OmitMarkup x = new OmitMarkup();
        Notation.model(x, 0, "12D*");
        Notation.model(x, 1, "3");
        x.omit(0, true, true);
        Notation.entity(x, 0, ">5 &1 [0");
        Notation.entity(x, 1, "<1 >0 'a ] [1");
        read(x, "'a &0 <>", "0+(a1())", "NOTHING@1 SHORT@1 OPEN@1 NOT_HERE@1 UNMARKED@1 UNMARKED@1 UNMARKED@1 NOT_HERE@2");
        Notation.rewrite(x, "<0 <1 [0 &1 [1");
        CHECK.same("the MARKs ahead of the closing", Notation.errors(x), "NOT_HERE@3 SHORT@3 OPEN@3 NOT_HERE@3 UNMARKED@3 UNMARKED@3 UNMARKED@5 UNMARKED@5");
    }
}
