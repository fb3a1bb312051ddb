/**
 * Terms, Reading: what is accepted, the six rules for a thing, closing up, and START to DATA: each sentence, and the
 * limits of 20 open elements, 300 things and 8 start tags just inside, at and just beyond them.
 */
final class BoundsOfReadingTest {
    private static final Check CHECK = new Check("BoundsOfReadingTest");

    private BoundsOfReadingTest() { }

    public static void main(String[] args) {
        acceptsNothingButTheRootAtFirst();
        acceptsNothingBehindTheRoot();
        acceptsWhatNoOpenOneExcludes();
        acceptsWhatAnOpenOneIncludes();
        theModelStaysAsItWas();
        emptyOnesAreClosedAtOnce();
        rule1ThreeHundredThings();
        rule1ThreeHundredThingsOfEachSort();
        rule1TwentyOpen();
        rule1TwentyOpenAndData();
        rule3TheRoot();
        rule4OneThingAloneAndCannotEnd();
        rule4WhatMayBePutIn();
        rule4FewerThanTwentyOpen();
        rule4FewerThanThreeHundredThings();
        rule4AtMostEight();
        rule4AtMostEightForEachThing();
        rule5NotTheRoot();
        rule5ItsModelCanEndAndItsTagMayLack();
        rule5AgainAndAgain();
        rule6LeftOut();
        closingShortThenOpen();
        closingForAllButThatOne();
        closingTwenty();
        startAndEmptyStart();
        endAndEmptyEnd();
        dataReadsItsLetter();
        behindTheLastToken();
        CHECK.end();
    }

    private static void reads(OmitMarkup x, String text, String tree, String errors) {
        Notation.rewrite(x, text);
        CHECK.same("the tree of " + text, Notation.tree(x), tree);
        CHECK.same("the errors of " + text, Notation.errors(x), errors);
    }

    /** The kinds of the errors at a place. */
    private static String errorsAt(OmitMarkup x, int place) {
        StringBuilder b = new StringBuilder();
        for (String error : Notation.errors(x).split(" ")) {
            if (error.endsWith("@" + place)) b.append(' ').append(error, 0, error.indexOf('@'));
        }
        return b.toString().trim();
    }

    private static void omitAll(OmitMarkup x) {
        for (int e = 0; e < 10; e++) x.omit(e, true, true);
    }

    // ---- what is accepted

    private static void acceptsNothingButTheRootAtFirst() {
        CHECK.about("Reading: as long as no element was opened, the root is accepted, and nothing else");
        for (String token : "<1 <2 <9 'a '_ |".split(" ")) {
            OmitMarkup x = new OmitMarkup();
            Notation.model(x, 0, "123456789D*");
            Notation.model(x, 1, "D*");
            x.except(0, 1022, 0);
            x.except(1, 1022, 1);
            reads(x, token, "", "NOT_HERE@0");
            reads(x, token + " <0", "0()", "NOT_HERE@0 OPEN@2");
        }
        OmitMarkup x = new OmitMarkup();
        Notation.model(x, 0, "D*");
        x.except(0, 0, 1023);
        reads(x, "<0 'a >0", "0(a)", "");
    }

    private static void acceptsNothingBehindTheRoot() {
        CHECK.about("Reading: when the root was closed, nothing is accepted any more");
        OmitMarkup x = new OmitMarkup();
        Notation.model(x, 0, "0123456789D*");
        x.except(0, 1023, 0);
        omitAll(x);
        for (int e = 0; e <= 9; e++) {
            reads(x, "'a >0 <" + e, "0+(a)", "NOT_HERE@2");
        }
        reads(x, "<0 >0 'a", "0()", "NOT_HERE@2");
        reads(x, "<0 >> | <>", "0()", "NOT_HERE@2 NOT_HERE@3");
        x.empty(0);
        reads(x, "<0 <0 'a", "0()", "NOT_HERE@1 NOT_HERE@2");
    }

    /** The 1, 2 and 3 are opened within one another; the 4 is asked for within all of them. */
    private static OmitMarkup three() {
        OmitMarkup x = new OmitMarkup();
        Notation.model(x, 0, "1D*");
        Notation.model(x, 1, "2D*");
        Notation.model(x, 2, "3D*");
        Notation.model(x, 3, "4D*");
        return x;
    }

    private static void acceptsWhatNoOpenOneExcludes() {
        CHECK.about("Reading: accepts a thing, if it is no element that an open one excludes");
        for (int e = 0; e <= 3; e++) {
            OmitMarkup x = three();
            reads(x, "<0 <1 <2 <3 <4 >3 >2 >1 >0", "0(1(2(3(4()))))", "");
            x.except(e, 0, 1 << 4);
            reads(x, "<0 <1 <2 <3 <4 'a >3 >2 >1 >0", "0(1(2(3(a))))", "NOT_HERE@4");
            // an inclusion does not help, be it of that one or of another
            x.except(e, 1 << 4, 1 << 4);
            reads(x, "<0 <1 <2 <3 <4 'a >3 >2 >1 >0", "0(1(2(3(a))))", "NOT_HERE@4");
            x.except((e + 1) % 4, 1 << 4, 0);
            reads(x, "<0 <1 <2 <3 <4 'a >3 >2 >1 >0", "0(1(2(3(a))))", "NOT_HERE@4");
        }
        // one that is not open excludes nothing: EMPTY, closed, or not opened at all
        OmitMarkup x = three();
        x.except(4, 0, 1 << 4);
        x.except(9, 0, 1 << 4);
        reads(x, "<0 <1 <2 <3 <4 <4 >3 >2 >1 >0", "0(1(2(3(4()4()))))", "");
        x.except(1, 0, 1 << 1);
        reads(x, "<0 <1 >1 <1 >1 >0", "0(1()1())", "");
        // it is asked of elements alone
        x.except(0, 0, 1023);
        reads(x, "<0 'a <1 >0", "0(a)", "NOT_HERE@2");
    }

    private static void acceptsWhatAnOpenOneIncludes() {
        CHECK.about("Reading: or if it is such an element, an open one includes it");
        for (int e = 0; e <= 3; e++) {
            OmitMarkup x = three();
            reads(x, "<0 <1 <2 <3 <7 'a >3 >2 >1 >0", "0(1(2(3(a))))", "NOT_HERE@4");
            x.except(e, 1 << 7, 0);
            reads(x, "<0 <1 <2 <3 <7 'a >3 >2 >1 >0", "0(1(2(3(7()a))))", "");
            Notation.rewrite(x, "<0 <1 >1 <7");
            CHECK.same("7 behind " + e, x.things(), e == 0 ? 3 : 2);
        }
        // one that is not open includes nothing
        OmitMarkup x = three();
        x.except(9, 1 << 7, 0);
        x.except(7, 1 << 7, 0);
        reads(x, "<0 <7 >0", "0()", "NOT_HERE@1");
    }

    private static void theModelStaysAsItWas() {
        CHECK.about("Reading: then the model stays as it was; otherwise it is read as far as that slot, one more being taken");
        OmitMarkup x = new OmitMarkup();
        Notation.model(x, 0, "1 2? D");
        x.except(0, 1 << 1 | 1 << 2 | 1 << 7, 0);
        Notation.write(x, "<0 <7 <2 <1 <7 <1 <2 <2 <1 'a <7");
        int[] due = {0, 2, 2, 2, 1028, 1028, 1028, 1024, 1024, 1024, 0, 0};
        for (int place = 0; place <= 11; place++) {
            CHECK.same("next(" + place + ")", x.next(place), due[place]);
        }
        CHECK.same("all is accepted", x.things() * 100 + x.errors(), 1101);
    }

    private static void emptyOnesAreClosedAtOnce() {
        CHECK.about("Reading: one that is EMPTY is closed at once, without a tag");
        OmitMarkup x = new OmitMarkup();
        Notation.model(x, 0, "1D*");
        reads(x, "<0 <1 'a <1 >0", "0(1()a1())", "");
        CHECK.same("it is not open behind its START", x.open(2) * 10 + x.current(2), 10);
        CHECK.same("no end is put in", x.endsPutIn(), 0);
        reads(x, "<0 <1 >1 >0", "0(1())", "NOTHING@2");
    }

    // ---- rule 1

    private static void rule1ThreeHundredThings() {
        CHECK.about("Reading 1: if the tree has 300 things, it is left out, with the error DEEP");
        for (int things = 297; things <= 300; things++) {
            OmitMarkup x = Scenes.crowd();
            Scenes.fillUp(x, things);
            int room = 300 - things;
            int end = x.length();
            CHECK.same("things()", x.things() * 10 + x.errors(), things * 10);
            Notation.write(x, "'v 'w 'x");
            CHECK.same("room for " + room, x.things(), Math.min(300, things + 3));
            CHECK.same("the errors", x.errors(), 3 - room);
            for (int i = room; i < 3; i++) {
                CHECK.same("error", x.errorKind(i - room) * 100 + x.errorAt(i - room), 600 + end + i);
            }
            if (room > 0) CHECK.same("the last letter", x.letter(299), new char[] {'v', 'w', 'x'}[room - 1]);
        }
    }

    private static void rule1ThreeHundredThingsOfEachSort() {
        CHECK.about("Reading 1: if the tree has 300 things: data, elements, EMPTY ones, and what is not accepted");
        for (String token : "<1 <2 <3 <9 <> 'x |".split(" ")) {
            OmitMarkup x = Scenes.crowd();
            Scenes.fillUp(x, 299);
            int end = x.length();
            Notation.write(x, token);
            if (token.equals("<9") || token.equals("<>")) {
                CHECK.same(token + " as the 300th: not accepted", Notation.errors(x), "NOT_HERE@" + end);
                Notation.write(x, "'y");
            }
            CHECK.same(token + " as the 300th", x.things(), 300);
            int ahead = x.errors();
            Notation.write(x, token);
            CHECK.same(token + " as the 301st: things", x.things(), 300);
            CHECK.same(token + " as the 301st: errors", x.errors(), ahead + 1);
            CHECK.same(token + " as the 301st: the error", errorsAt(x, x.length() - 1), "DEEP");
        }
        CHECK.about("Reading 1: ahead of all others: nothing is put in or closed where the tree is full");
        OmitMarkup x = Scenes.crowd();
        Scenes.fillUp(x, 299);
        Notation.write(x, "<1 <2 >0 'z <0");
        int end = x.length();
        CHECK.same("DEEP within the 1, and behind the root", Notation.errors(x), "DEEP@" + (end - 4) + " DEEP@" + (end - 2) + " DEEP@" + (end - 1));
        CHECK.same("the 1 stays open", x.open(end - 3), 2);
    }

    private static OmitMarkup nested(int open) {
        OmitMarkup x = new OmitMarkup();
        Notation.model(x, 0, "123D*");
        Notation.model(x, 1, "123D*");
        Notation.model(x, 3, "2");
        x.insert(0, OmitMarkup.START, 0);
        for (int i = 1; i < open; i++) x.insert(i, OmitMarkup.START, 1);
        return x;
    }

    private static void rule1TwentyOpen() {
        CHECK.about("Reading 1: or it is an element, and 20 are open");
        for (int open = 18; open <= 20; open++) {
            for (String token : "<1 <2 <> <9".split(" ")) {
                OmitMarkup x = nested(open);
                CHECK.same("open()", x.open(open), open);
                Notation.write(x, token);
                String due = token.equals("<9") ? "NOT_HERE" : "";
                CHECK.same(token + " with " + open + " open", errorsAt(x, open), open == 20 ? "DEEP" : due);
                CHECK.same("things", x.things(), open + (open == 20 || token.equals("<9") ? 0 : 1));
                CHECK.same("open then", x.open(open + 1), open + (open < 20 && (token.equals("<1") || token.equals("<>")) ? 1 : 0));
            }
        }
    }

    private static void rule1TwentyOpenAndData() {
        CHECK.about("Reading 1: data is read, though 20 are open; and elements again, as soon as 19 are");
        OmitMarkup x = nested(20);
        Notation.write(x, "'a | 'b <2 >1 <2 <1 <1 'c");
        CHECK.same("the element with 20 open", errorsAt(x, 23), "DEEP");
        CHECK.same("the element with 20 open again", errorsAt(x, 27), "DEEP");
        CHECK.same("all others are read", x.errorAt(2), 29);
        CHECK.same("things", x.things(), 26);
        CHECK.same("open behind the END", x.open(25), 19);
        CHECK.same("open behind the next START", x.open(27), 20);
        CHECK.same("open behind what is left out", x.open(28), 20);
        CHECK.same("the parent of the last letter", x.parent(25), 24);
    }

    // ---- rule 3

    private static void rule3TheRoot() {
        CHECK.about("Reading 3: if no element was opened yet, and the start tag of the root may be left out, the root is opened");
        OmitMarkup x = new OmitMarkup();
        Notation.model(x, 0, "1D*");
        Notation.model(x, 1, "D*");
        x.omit(0, true, true);
        for (String token : "'a <1 <9 |".split(" ")) {
            Notation.rewrite(x, ">9 <> >> " + token);
            CHECK.same("the root for " + token, x.things() > 0 && x.kind(0) == 0 && x.isPutIn(0), true);
            CHECK.same("its place", x.placeOf(0), 3);
        }
        reads(x, ">0 >> <>", "", "NOTHING@0 NOTHING@1 NOTHING@2");
        reads(x, "<0 'a", "0(a)", "");
        reads(x, "'a >0 'b", "0+(a)", "NOT_HERE@2");
        x.omit(0, false, true);
        reads(x, "'a <1", "", "NOT_HERE@0 NOT_HERE@1");
        x.omit(0, true, true);
        x.empty(0);
        reads(x, "'a 'b", "0+()", "NOT_HERE@0 NOT_HERE@1");
        // those of others do not matter
        OmitMarkup y = new OmitMarkup();
        Notation.model(y, 0, "D*");
        for (int e = 1; e < 10; e++) y.omit(e, true, true);
        reads(y, "'a", "", "NOT_HERE@0");
    }

    // ---- rule 4

    private static void rule4OneThingAloneAndCannotEnd() {
        CHECK.about("Reading 4: its model can go on with one thing alone, and cannot end");
        String[] putIn = {"1", "1+", "1 2", "1 2?", "1+ 2*", "1 D*"};
        String[] not = {"1?", "1*", "12", "12+", "1? 2", "1* 2", "2", "3 1", "1? 3+"};
        for (String model : putIn) {
            OmitMarkup x = new OmitMarkup();
            Notation.model(x, 0, model);
            Notation.model(x, 1, "D*");
            omitAll(x);
            Notation.write(x, "<0 'a");
            CHECK.same("the tree by " + model, Notation.tree(x), "0(1+(a))");
        }
        for (String model : not) {
            OmitMarkup x = new OmitMarkup();
            Notation.model(x, 0, model);
            Notation.model(x, 1, "D*");
            omitAll(x);
            Notation.write(x, "<0 'a");
            CHECK.same("the tree by " + model, Notation.tree(x), "0()");
            CHECK.same("the error by " + model, x.errorKind(0) * 10 + x.errorAt(0), 1);
        }
        // data alone is no element; behind what was taken it is asked anew
        OmitMarkup x = new OmitMarkup();
        Notation.model(x, 0, "D 1 2");
        Notation.model(x, 1, "D?");
        Notation.model(x, 2, "D*");
        omitAll(x);
        reads(x, "<0 <5", "0()", "NOT_HERE@1 SHORT@2");
        reads(x, "<0 'a 'b 'c 'd", "0(a1+(b)2+(cd))", "");
    }

    private static void rule4WhatMayBePutIn() {
        CHECK.about("Reading 4: an element that is not EMPTY, that no open one excludes, and whose start tag may be left out");
        OmitMarkup x = new OmitMarkup();
        Notation.model(x, 0, "1");
        omitAll(x);
        reads(x, "<0 'a", "0()", "NOT_HERE@1 SHORT@2");
        Notation.model(x, 1, "D*");
        reads(x, "<0 'a", "0(1+(a))", "");
        x.except(0, 0, 1 << 1);
        reads(x, "<0 'a", "0()", "NOT_HERE@1 SHORT@2");
        x.except(0, 1 << 1, 0);
        reads(x, "<0 'a", "0(1+(a))", "");
        x.omit(1, false, true);
        reads(x, "<0 'a", "0()", "NOT_HERE@1 SHORT@2");
        x.omit(1, true, false);
        reads(x, "<0 'a >1 >0", "0(1+(a))", "");
        // excluded by an outer one
        OmitMarkup y = new OmitMarkup();
        Notation.model(y, 0, "2*");
        Notation.model(y, 2, "1");
        Notation.model(y, 1, "D*");
        omitAll(y);
        reads(y, "<0 <2 'a", "0(2(1+(a)))", "");
        y.except(0, 0, 1 << 1);
        reads(y, "<0 <2 'a", "0(2())", "NOT_HERE@2 SHORT@3");
    }

    /** So many elements 1 within one another in the root, then a 5, which needs a 6, which has data. */
    private static OmitMarkup chainAt(int open) {
        OmitMarkup x = new OmitMarkup();
        Notation.model(x, 0, "15D*");
        Notation.model(x, 1, "15D*");
        Notation.model(x, 5, "6");
        Notation.model(x, 6, "7");
        Notation.model(x, 7, "D*");
        omitAll(x);
        x.insert(0, OmitMarkup.START, 0);
        for (int i = 1; i < open; i++) x.insert(i, OmitMarkup.START, 1);
        return x;
    }

    private static void rule4FewerThanTwentyOpen() {
        CHECK.about("Reading 4: fewer than 20 are open");
        for (int open = 16; open <= 19; open++) {
            OmitMarkup x = chainAt(open);
            Notation.write(x, "<5 'a");
            // the 5 makes one more; a 6 and a 7 are needed
            int putIn = Math.min(2, 19 - open);
            CHECK.same("open with " + open + " ahead", x.open(open + 2), open + 1 + putIn);
            CHECK.same("the letter is read", x.kind(x.things() - 1) == 10, putIn == 2);
            CHECK.same("its error", errorsAt(x, open + 1), putIn < 2 ? "NOT_HERE" : "");
        }
        // an element finds 20 open as soon as they are put in
        OmitMarkup x = chainAt(18);
        Notation.write(x, "<5 <7");
        CHECK.same("the 20th is put in, the 7 left out", x.open(20) * 10 + x.current(20), 206);
        CHECK.same("with the error DEEP", errorsAt(x, 19), "DEEP");
        OmitMarkup y = chainAt(17);
        Notation.write(y, "<5 <7");
        CHECK.same("as the 20th the 7 is read", y.open(19) * 10 + y.current(19), 207);
        CHECK.same("without an error", errorsAt(y, 18), "");
    }

    private static void rule4FewerThanThreeHundredThings() {
        CHECK.about("Reading 4: and the tree has fewer than 300 things");
        for (int things = 295; things <= 300; things++) {
            OmitMarkup x = Scenes.crowd();
            Scenes.fillUp(x, things - 1);
            Notation.write(x, "<3 'a");
            int end = x.length();
            // the 3 is the last of so many things; a 4 is needed for the letter
            CHECK.same("things with " + things + " ahead of the letter", x.things(), Math.min(300, things + 2));
            boolean isRead = things <= 298;
            CHECK.same("the 4 is put in", x.open(end), things <= 299 ? 3 : 2);
            CHECK.same("the letter is read", x.letter(x.things() - 1) == 'a', isRead);
            CHECK.same("its error", errorsAt(x, end - 1), isRead ? "" : "DEEP");
            if (things == 299) CHECK.same("the last thing is the 4", x.kind(299) == 4 && x.isPutIn(299), true);
            if (things == 300) CHECK.same("the last thing is the 3", x.kind(299) == 3 && !x.isPutIn(299), true);
        }
    }

    /** The root needs a 1, that a 2, and so on; the last of so many has data. */
    private static OmitMarkup chain(int elements) {
        OmitMarkup x = new OmitMarkup();
        for (int e = 0; e < elements; e++) Notation.model(x, e, "" + (e + 1));
        Notation.model(x, elements, "D*");
        omitAll(x);
        return x;
    }

    private static void rule4AtMostEight() {
        CHECK.about("Reading 4: but at most 8 are opened so for one thing");
        for (int elements = 6; elements <= 9; elements++) {
            OmitMarkup x = chain(elements);
            Notation.write(x, "<0 'a");
            boolean isRead = elements <= 8;
            CHECK.same("open of " + elements, x.open(2), Math.min(elements, 8) + 1);
            CHECK.same("the letter is read", x.kind(x.things() - 1) == 10, isRead);
            CHECK.same("its error", errorsAt(x, 1), isRead ? "" : "NOT_HERE");
        }
        OmitMarkup x = chain(9);
        reads(x, "<0 <8", "0(1+(2+(3+(4+(5+(6+(7+(8()))))))))", "SHORT@2");
        reads(x, "<0 <9", "0(1+(2+(3+(4+(5+(6+(7+(8+(9())))))))))", "");
        CHECK.about("Reading 4: at most 8 are opened so: the root, opened by rule 3, is none of them");
        reads(x, "<9", "0+(1+(2+(3+(4+(5+(6+(7+(8+(9())))))))))", "");
        reads(x, "'a", "0+(1+(2+(3+(4+(5+(6+(7+(8+()))))))))", "NOT_HERE@0 SHORT@1");
    }

    private static void rule4AtMostEightForEachThing() {
        CHECK.about("Reading 4: at most 8 for one thing: those for another do not count");
        OmitMarkup x = chain(9);
        reads(x, "<0 'a 'b", "0(1+(2+(3+(4+(5+(6+(7+(8+(9+(b))))))))))", "NOT_HERE@1");
        // each thing of an entity is one, and each letter of a PLAIN part
        Notation.entity(x, 0, "'a 'b");
        reads(x, "<0 &0", "0(1+(2+(3+(4+(5+(6+(7+(8+(9+(b))))))))))", "NOT_HERE@1");
        x.flip(0, OmitMarkup.PLAIN);
        reads(x, "<0 [0 <1 <1 ]", "0(1+(2+(3+(4+(5+(6+(7+(8+(9+(*))))))))))", "NOT_HERE@2");
        // ends that are put in between do not set them back: 3 times a 1 with a 2 and a 3, then a 1
        OmitMarkup y = new OmitMarkup();
        Notation.model(y, 0, "1 1 1 1 5");
        Notation.model(y, 1, "2 3");
        Notation.model(y, 2, "D?");
        Notation.model(y, 3, "D?");
        omitAll(y);
        reads(y, "<0 <5", "0(1+(2+()3+())1+(2+()3+())1+(2+()))", "NOT_HERE@1 SHORT@2 SHORT@2");
        CHECK.same("7 ends put in for the thing, and two behind it", y.endsPutIn(), 9);
        reads(y, "<0 <5 <5", "0(1+(2+()3+())1+(2+()3+())1+(2+()3+())1+(2+()3+())5())", "NOT_HERE@1");
    }

    // ---- rules 5 and 6

    private static void rule5NotTheRoot() {
        CHECK.about("Reading 5: if the current element is not the root");
        OmitMarkup x = new OmitMarkup();
        Notation.model(x, 0, "1D?");
        Notation.model(x, 1, "D?");
        omitAll(x);
        reads(x, "<0 'a 'b <1", "0(a)", "NOT_HERE@2 NOT_HERE@3");
        CHECK.same("the root is open yet", x.open(4) * 10 + x.current(4), 10);
        reads(x, "<0 <1 'a 'b", "0(1(a))", "NOT_HERE@3");
        CHECK.same("the 1 is closed, the root is not", x.open(4) * 10 + x.current(4), 10);
        CHECK.same("their ends", x.endsPutIn(), 2);
    }

    private static void rule5ItsModelCanEndAndItsTagMayLack() {
        CHECK.about("Reading 5: its model can end, and its end tag may be left out, it is closed");
        OmitMarkup x = new OmitMarkup();
        Notation.model(x, 0, "12*");
        Notation.model(x, 1, "D 3?");
        x.omit(1, false, true);
        reads(x, "<0 <1 'a <2 >0", "0(1(a)2())", "");
        CHECK.same("its end is put in", x.endsPutIn(), 1);
        reads(x, "<0 <1 <2 >0", "0(1())", "NOT_HERE@2 SHORT@3");
        x.omit(1, true, false);
        reads(x, "<0 <1 'a <2 >1 >0", "0(1(a))", "NOT_HERE@3");
        CHECK.same("no end is put in", x.endsPutIn(), 0);
        x.omit(1, true, true);
        x.omit(0, true, true);
        reads(x, "<0 <1 'a <9 'b <2", "0(1(a)2())", "NOT_HERE@3 NOT_HERE@4");
    }

    private static void rule5AgainAndAgain() {
        CHECK.about("Reading: to read a thing is this, again and again: up to 19 are closed for one thing");
        for (int open : new int[] {2, 3, 19, 20}) {
            OmitMarkup x = new OmitMarkup();
            Notation.model(x, 0, "1D*");
            Notation.model(x, 1, "1*");
            omitAll(x);
            x.insert(0, OmitMarkup.START, 0);
            for (int i = 1; i < open; i++) x.insert(i, OmitMarkup.START, 1);
            Notation.write(x, "'a");
            CHECK.same("open behind the letter", x.open(open + 1), 1);
            CHECK.same("the parent of the letter", x.parent(open), 0);
            CHECK.same("ends put in", x.endsPutIn(), open);
            CHECK.same("errors", x.errors(), 0);
            x.omit(1, true, false);
            CHECK.same("none is closed", x.open(open + 1), open);
            CHECK.same("the letter is left out", x.errorKind(0) * 100 + x.errorAt(0), open);
        }
    }

    private static void rule6LeftOut() {
        CHECK.about("Reading 6: otherwise the thing is left out, with the error NOT_HERE");
        OmitMarkup x = new OmitMarkup();
        Notation.model(x, 0, "1 D");
        reads(x, "<0 'a <2 <1 <1 'b 'c >0 'd", "0(1()b)", "NOT_HERE@1 NOT_HERE@2 NOT_HERE@4 NOT_HERE@6 NOT_HERE@8");
        // what was put in and closed for it stays
        OmitMarkup y = new OmitMarkup();
        Notation.model(y, 0, "1 2");
        Notation.model(y, 1, "D?");
        Notation.model(y, 2, "D?");
        omitAll(y);
        reads(y, "<9", "0+(1+()2+())", "NOT_HERE@0");
        CHECK.same("places", Notation.places(y), "0 0 0");
        CHECK.same("ends put in", y.endsPutIn(), 3);
    }

    // ---- closing

    private static void closingShortThenOpen() {
        CHECK.about("Reading: for each of them, if its model cannot end, SHORT; if its end tag may not be left out, OPEN, behind SHORT");
        for (int which = 0; which < 16; which++) {
            boolean innerShort = which % 2 == 1, innerOpen = which / 2 % 2 == 1, outerShort = which / 4 % 2 == 1, outerOpen = which / 8 == 1;
            OmitMarkup x = new OmitMarkup();
            Notation.model(x, 0, "1D*");
            Notation.model(x, 1, outerShort ? "2 D" : "2 D?");
            Notation.model(x, 2, innerShort ? "3 D" : "3 D?");
            Notation.model(x, 3, "D*");
            x.omit(1, true, !outerOpen);
            x.omit(2, true, !innerOpen);
            x.omit(3, true, true);
            String due = (innerShort ? " SHORT" : "") + (innerOpen ? " OPEN" : "") + (outerShort ? " SHORT" : "");
            Notation.write(x, "<0 <1 <2 <3 >1 >0");
            CHECK.same("closing up to the 1, " + which, Notation.errors(x).replace("@4", ""), due.trim());
            CHECK.same("ends put in", x.endsPutIn(), 2);
            Notation.rewrite(x, "<0 <1 <2 <3 >0");
            CHECK.same("closing up to the 0, " + which, Notation.errors(x).replace("@4", ""), (due + (outerOpen ? " OPEN" : "")).trim());
            CHECK.same("ends put in", x.endsPutIn(), 3);
        }
    }

    private static void closingForAllButThatOne() {
        CHECK.about("Reading: and for all but that one its end tag is put in");
        OmitMarkup x = new OmitMarkup();
        Notation.model(x, 0, "1");
        Notation.model(x, 1, "1?");
        for (int e = 0; e < 2; e++) x.omit(e, false, true);
        String text = "<0 <1 <1 <1 <1";
        String[] ends = {" >1", " >>", " >1 >1", " >> >>", " >0", " >1 >0", " >> >> >> >> >>", ""};
        int[] due = {4, 4, 3, 3, 4, 3, 0, 5};
        for (int i = 0; i < ends.length; i++) {
            Notation.rewrite(x, text + ends[i]);
            CHECK.same("ends put in for" + ends[i], x.endsPutIn(), due[i]);
            CHECK.same("errors of" + ends[i], x.errors(), 0);
        }
    }

    private static void closingTwenty() {
        CHECK.about("Reading: to close up to an open element: 20 of them");
        OmitMarkup x = new OmitMarkup();
        Notation.model(x, 0, "1 D");
        Notation.model(x, 1, "1 D");
        x.insert(0, OmitMarkup.START, 0);
        for (int i = 1; i < 20; i++) x.insert(i, OmitMarkup.START, 1);
        CHECK.same("SHORT and OPEN for each behind the last token", x.errors(), 40);
        for (int i = 0; i < 40; i++) {
            CHECK.same("error " + i, x.errorKind(i) * 100 + x.errorAt(i), (i % 2 == 0 ? 220 : 320));
        }
        CHECK.same("ends put in", x.endsPutIn(), 20);
        x.insert(20, OmitMarkup.END, 0);
        CHECK.same("one OPEN less by the root's END", x.errors(), 39);
        CHECK.same("the last one is SHORT", x.errorKind(38) * 100 + x.errorAt(38), 220);
        CHECK.same("ends put in", x.endsPutIn(), 19);
        CHECK.same("none is open", x.open(21), 0);
    }

    // ---- tokens

    private static void startAndEmptyStart() {
        CHECK.about("Reading: EMPTY_START reads the element that was opened last, be it open or not; if none was, it is left out, with the error NOTHING");
        OmitMarkup x = new OmitMarkup();
        Notation.model(x, 0, "12D*");
        Notation.model(x, 1, "12D*");
        x.omit(0, true, true);
        reads(x, "<>", "", "NOTHING@0");
        reads(x, "<9 <> >0 <>", "0+()", "NOT_HERE@0 NOT_HERE@1 NOT_HERE@3");
        reads(x, "<0 <>", "0()", "NOT_HERE@1");
        reads(x, "<0 <1 >1 <> <> >1 <2 <> >0", "0(1()1(1()2()2()))", "OPEN@8");
        reads(x, "<0 <1 <9 <> >0", "0(1(1()))", "NOT_HERE@2 OPEN@4 OPEN@4");
        // one that was put in
        OmitMarkup y = new OmitMarkup();
        Notation.model(y, 0, "1 1");
        Notation.model(y, 1, "D");
        omitAll(y);
        reads(y, "'a <> 'b", "0+(1+(a)1(b))", "");
    }

    private static OmitMarkup rootsAndOnes() {
        OmitMarkup x = new OmitMarkup();
        Notation.model(x, 0, "01D*");
        Notation.model(x, 1, "01D*");
        omitAll(x);
        return x;
    }

    private static void endAndEmptyEnd() {
        CHECK.about("Reading: END closes up to the open element of its sort that was opened last, EMPTY_END up to the current one; if there is none, it is left out, with the error NOTHING");
        for (int e = 0; e <= 9; e++) {
            OmitMarkup y = rootsAndOnes();
            reads(y, ">" + e, "", "NOTHING@0");
            reads(y, "<0 >0 >" + e, "0()", "NOTHING@2");
            if (e > 1) reads(y, "<0 <1 >" + e + " 'a", "0(1(a))", "NOTHING@2");
        }
        OmitMarkup x = rootsAndOnes();
        reads(x, ">>", "", "NOTHING@0");
        reads(x, "<0 >> >>", "0()", "NOTHING@2");
        reads(x, "<0 <1 <0 <1 >0 'a", "0(1(0(1())a))", "");
        reads(x, "<0 <1 <0 <1 >1 'a", "0(1(0(1()a)))", "");
        reads(x, "<0 <1 <0 <1 >1 >1 'a", "0(1(0(1()))a)", "");
        reads(x, "<0 <1 <0 >> 'a >> 'b", "0(1(0()a)b)", "");
    }

    private static void dataReadsItsLetter() {
        CHECK.about("Reading: DATA reads data, its letter");
        OmitMarkup x = new OmitMarkup();
        Notation.model(x, 0, "D*");
        reads(x, "<0 '_ '! '< '~ '* >0", "0(_!<~*)", "");
    }

    private static void behindTheLastToken() {
        CHECK.about("Reading: behind the last token, if elements are open, all are closed, up to the root, its end tag being put in, too, and looked at like the others");
        for (int which = 0; which < 4; which++) {
            OmitMarkup x = new OmitMarkup();
            Notation.model(x, 0, which % 2 == 1 ? "1 2" : "1 2?");
            x.omit(0, true, which < 2);
            Notation.write(x, "<0 <1");
            CHECK.same("the root, " + which, Notation.errors(x), ((which % 2 == 1 ? "SHORT@2 " : "") + (which >= 2 ? "OPEN@2" : "")).trim());
            CHECK.same("its end", x.endsPutIn(), 1);
            x.insert(2, OmitMarkup.END, 0);
            CHECK.same("no end", x.endsPutIn(), 0);
        }
        CHECK.about("Reading: an error has a place: behind the last token the number of tokens");
        for (int tokens : new int[] {1, 2, 59, 60}) {
            OmitMarkup x = new OmitMarkup();
            Notation.model(x, 0, "D*");
            x.insert(0, OmitMarkup.START, 0);
            for (int i = 1; i < tokens; i++) x.insert(i, OmitMarkup.DATA, 'a');
            CHECK.same("OPEN of " + tokens, Notation.errors(x), "OPEN@" + tokens);
            x.erase(tokens - 1);
            x.insert(tokens - 1, OmitMarkup.START, 9);
            CHECK.same("an error of the last token", x.errorAt(0), tokens - 1);
        }
    }
}
