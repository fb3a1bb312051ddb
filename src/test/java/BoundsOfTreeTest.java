/**
 * Promises 17 to 26: each sentence that names a bound of what is told of the tree and of the errors, just inside it and
 * at it. What is beyond is refused, see RefusalTest.
 */
final class BoundsOfTreeTest {
    private static final Check CHECK = new Check("BoundsOfTreeTest");
    private static final Class<?> IOOBE = Scenes.IOOBE;

    private BoundsOfTreeTest() { }

    public static void main(String[] args) {
        promise17FromNoneTo300();
        promise18EachElementAndData();
        promise19NoneForTheRoot();
        promise19OfTheLastThing();
        promise19TwentyDeep();
        promise20EachLetter();
        promise20OfAnElement();
        promise21EachPlace();
        promise21OfWhatIsPutIn();
        promise22WasPutInOrNot();
        promise23FromNoneOn();
        promise24FromNoneOn();
        promise25EachKind();
        promise25AsTheyComeAbout();
        promise26EachPlace();
        CHECK.end();
    }

    private static OmitMarkup any() {
        OmitMarkup x = new OmitMarkup();
        Notation.model(x, 0, "123456789D*");
        Notation.model(x, 1, "D*");
        return x;
    }

    private static void promise17FromNoneTo300() {
        CHECK.about("Promise 17: returns how many things the tree has");
        OmitMarkup x = Scenes.crowd();
        CHECK.same("at first", x.things(), 0);
        for (int things : new int[] {2, 3, 8, 38, 298, 299, 300}) {
            Scenes.fillUp(x, things);
            CHECK.same("things()", x.things(), things);
            CHECK.same("errors()", x.errors(), 0);
            CHECK.same("the last one", x.kind(things - 1), 10);
            CHECK.refused("one more", IOOBE, () -> x.kind(things));
        }
        Notation.write(x, "'z <1 &0 |");
        CHECK.same("at most 300", x.things(), 300);
        CHECK.refused("one more", IOOBE, () -> x.kind(300));
        CHECK.same("left out: a letter, an element, 36 letters and a blank", x.errors(), 39);
        while (x.length() > 0) x.erase(0);
        CHECK.same("of no text", x.things(), 0);
        CHECK.refused("the first of none", IOOBE, () -> x.kind(0));
    }

    private static void promise18EachElementAndData() {
        CHECK.about("Promise 18: returns the element; 10 for data");
        OmitMarkup x = any();
        Notation.write(x, "<0 <9 <8 <7 <6 <5 <4 <3 <2 'a | <1 'b");
        int[] due = {0, 9, 8, 7, 6, 5, 4, 3, 2, 10, 10, 1, 10};
        CHECK.same("things()", x.things(), due.length);
        for (int i = 0; i < due.length; i++) CHECK.same("kind(" + i + ")", x.kind(i), due[i]);
    }

    private static void promise19NoneForTheRoot() {
        CHECK.about("Promise 19: returns its parent; NONE for the root");
        OmitMarkup x = any();
        x.omit(0, true, true);
        Notation.write(x, "<0 'a <1 'b 'c >1 <2 'd");
        int[] due = {OmitMarkup.NONE, 0, 0, 2, 2, 0, 0};
        for (int i = 0; i < due.length; i++) CHECK.same("parent(" + i + ")", x.parent(i), due[i]);
        x.erase(0);
        for (int i = 0; i < due.length; i++) CHECK.same("parent(" + i + ") with the root put in", x.parent(i), due[i]);
        OmitMarkup y = new OmitMarkup();
        Notation.write(y, "<0");
        CHECK.same("the only thing", y.parent(0), OmitMarkup.NONE);
        // another 0 is not the root
        OmitMarkup z = new OmitMarkup();
        Notation.model(z, 0, "0");
        Notation.write(z, "<0 <0 <0");
        CHECK.same("an 0 within the 0", z.parent(0) * 100 + z.parent(1) * 10 + z.parent(2), -99);
    }

    private static void promise19OfTheLastThing() {
        CHECK.about("Promise 19, thing: 299");
        OmitMarkup x = Scenes.crowd();
        Scenes.fillUp(x, 298);
        Notation.write(x, "<1 'z");
        CHECK.same("parent(298)", x.parent(298), 0);
        CHECK.same("parent(299)", x.parent(299), 298);
        CHECK.same("letter(299)", x.letter(299), 'z');
        CHECK.same("placeOf(299)", x.placeOf(299), x.length() - 1);
        CHECK.same("isPutIn(299)", x.isPutIn(299), false);
    }

    private static void promise19TwentyDeep() {
        CHECK.about("Promise 19: of things within 20 elements");
        OmitMarkup x = new OmitMarkup();
        Notation.model(x, 0, "1D*");
        Notation.model(x, 1, "1D*");
        x.insert(0, OmitMarkup.START, 0);
        for (int i = 1; i < 20; i++) x.insert(i, OmitMarkup.START, 1);
        for (int i = 20; i < 40; i++) x.insert(i, OmitMarkup.DATA + i % 2 * (OmitMarkup.EMPTY_END - OmitMarkup.DATA), 'a');
        CHECK.same("things()", x.things(), 30);
        for (int i = 0; i < 20; i++) CHECK.same("parent(" + i + ")", x.parent(i), i - 1);
        for (int i = 20; i < 30; i++) CHECK.same("parent(" + i + ")", x.parent(i), 39 - i);
    }

    private static void promise20EachLetter() {
        CHECK.about("Promise 20: returns the letter");
        for (int value = ' '; value <= '~'; value++) {
            OmitMarkup x = any();
            x.entity(0, OmitMarkup.DATA, value);
            x.insert(0, OmitMarkup.START, 0);
            x.insert(1, OmitMarkup.DATA, value);
            x.insert(2, OmitMarkup.ENTITY, 0);
            CHECK.same("of DATA", x.letter(1), value);
            CHECK.same("of DATA of an entity", x.letter(2), value);
            CHECK.same("kinds", x.kind(1) + x.kind(2), 20);
        }
        OmitMarkup x = any();
        x.flip(0, OmitMarkup.PLAIN);
        Notation.write(x, "<0 'a | [0 <2 | 'b ]");
        CHECK.same("of a LINE", x.letter(2), ' ');
        CHECK.same("of a START within PLAIN", x.letter(3), '*');
        CHECK.same("of a LINE within PLAIN", x.letter(4), ' ');
        CHECK.same("of DATA within PLAIN", x.letter(5), 'b');
    }

    private static void promise20OfAnElement() {
        CHECK.about("Promise 20: '<' for an element");
        OmitMarkup x = any();
        x.omit(0, true, true);
        Notation.write(x, "<1 >1 <> >1 <9");
        for (int i = 0; i < 4; i++) CHECK.same("letter(" + i + ")", x.letter(i), '<');
        CHECK.same("things()", x.things(), 4);
    }

    private static void promise21EachPlace() {
        CHECK.about("Promise 21: returns the place: that of the token of the text at which it comes into the tree");
        OmitMarkup x = any();
        x.insert(0, OmitMarkup.START, 0);
        for (int i = 1; i < 60; i++) x.insert(i, i % 2 == 0 ? OmitMarkup.DATA : OmitMarkup.LINE, 'a');
        // the LINE behind the START is left out
        CHECK.same("things()", x.things(), 59);
        CHECK.same("placeOf(0)", x.placeOf(0), 0);
        for (int i = 1; i < 59; i++) CHECK.same("placeOf(" + i + ")", x.placeOf(i), i + 1);
        CHECK.about("Promise 21: the place of the ENTITY within which it does");
        OmitMarkup y = Scenes.crowd();
        Notation.write(y, "&1 >9 &0 >9 &0");
        CHECK.same("things()", y.things(), 79);
        for (int i = 0; i < 79; i++) CHECK.same("placeOf(" + i + ")", y.placeOf(i), i < 7 ? 0 : i < 43 ? 2 : 4);
    }

    private static void promise21OfWhatIsPutIn() {
        CHECK.about("Promise 21: of what is put in: the place of the thing for which it is");
        OmitMarkup x = new OmitMarkup();
        Notation.model(x, 0, "1 1");
        Notation.model(x, 1, "D");
        for (int e = 0; e < 2; e++) x.omit(e, true, true);
        for (int i = 0; i < 58; i++) x.insert(0, OmitMarkup.END, 9);
        Notation.write(x, "'a 'b");
        CHECK.same("places", Notation.places(x), "58 58 58 59 59");
        CHECK.same("the tree", Notation.tree(x), "0+(1+(a)1+(b))");
    }

    private static void promise22WasPutInOrNot() {
        CHECK.about("Promise 22: returns whether it was; false for data");
        OmitMarkup x = new OmitMarkup();
        Notation.model(x, 0, "1 1 2*");
        Notation.model(x, 1, "D");
        for (int e = 0; e < 3; e++) x.omit(e, true, true);
        Notation.write(x, "'a <1 'b <2 <>");
        boolean[] due = {true, true, false, false, false, false, false};
        for (int i = 0; i < due.length; i++) CHECK.same("isPutIn(" + i + ")", x.isPutIn(i), due[i]);
        x.insert(0, OmitMarkup.START, 0);
        CHECK.same("the root is not then", x.isPutIn(0), false);
        CHECK.same("the 1 is yet", x.isPutIn(1), true);
        x.insert(1, OmitMarkup.START, 1);
        CHECK.same("nor is the 1", x.isPutIn(1), false);
    }

    private static void promise23FromNoneOn() {
        CHECK.about("Promise 23: returns how many end tags were put in");
        OmitMarkup x = any();
        CHECK.same("of no text", x.endsPutIn(), 0);
        Notation.write(x, "<0 <1 'a >1 >0");
        CHECK.same("none", x.endsPutIn(), 0);
        x.erase(4);
        CHECK.same("one, behind the last token", x.endsPutIn(), 1);
        x.erase(3);
        CHECK.same("two", x.endsPutIn(), 2);
        Notation.write(x, ">0");
        CHECK.same("one, within", x.endsPutIn(), 1);
        Notation.write(x, ">0 >1 >>");
        CHECK.same("none for what closes nothing", x.endsPutIn(), 1);
        OmitMarkup y = Scenes.crowd();
        Notation.write(y, "&2 &2 &2 &2 &2 &2 &2 &2");
        CHECK.same("of 288 elements one behind the other, and of the root", y.endsPutIn(), 289);
        Notation.write(y, "&2");
        CHECK.same("of 299, and of the root", y.endsPutIn(), 300);
        CHECK.same("but the tree has 300 things", y.things(), 300);
    }

    private static void promise24FromNoneOn() {
        CHECK.about("Promise 24: returns how many errors there are");
        OmitMarkup x = new OmitMarkup();
        CHECK.same("of no text", x.errors(), 0);
        CHECK.refused("the first of none", IOOBE, () -> x.errorKind(0));
        for (int i = 1; i <= 60; i++) {
            x.insert(0, OmitMarkup.DATA, 'a');
            CHECK.same("of " + i + " tokens", x.errors(), i);
        }
        for (int i = 0; i < 60; i++) CHECK.same("error " + i, x.errorKind(i) * 100 + x.errorAt(i), i);
        CHECK.refused("one more", IOOBE, () -> x.errorKind(60));
        CHECK.refused("one more", IOOBE, () -> x.errorAt(60));
        for (int i = 59; i >= 0; i--) {
            x.erase(0);
            CHECK.same("of " + i + " tokens", x.errors(), i);
        }
        CHECK.refused("the first of none again", IOOBE, () -> x.errorAt(0));
    }

    private static void promise25EachKind() {
        CHECK.about("Promise 25: returns NOT_HERE to DEEP");
        OmitMarkup x = new OmitMarkup();
        Notation.model(x, 0, "1D*");
        Notation.model(x, 1, "1 D");
        Notation.entity(x, 0, "&0");
        Notation.write(x, "'a >9 <0");
        for (int i = 1; i < 20; i++) x.insert(x.length(), OmitMarkup.START, 1);
        Notation.write(x, "<1 &0 ] >0");
        CHECK.same("NOT_HERE", x.errorKind(0) * 100 + x.errorAt(0), 0);
        CHECK.same("NOTHING", x.errorKind(1) * 100 + x.errorAt(1), 101);
        CHECK.same("DEEP", x.errorKind(2) * 100 + x.errorAt(2), 622);
        CHECK.same("RING", x.errorKind(3) * 100 + x.errorAt(3), 423);
        CHECK.same("UNMARKED", x.errorKind(4) * 100 + x.errorAt(4), 524);
        CHECK.same("SHORT", x.errorKind(5) * 100 + x.errorAt(5), 225);
        CHECK.same("OPEN", x.errorKind(6) * 100 + x.errorAt(6), 325);
        CHECK.same("SHORT and OPEN of the 19 elements 1", x.errors(), 5 + 38);
    }

    private static void promise25AsTheyComeAbout() {
        CHECK.about("Promise 25, error: from 0, as they come about");
        OmitMarkup x = any();
        x.flip(1, OmitMarkup.PLAIN);
        Notation.entity(x, 0, "<1 ] <9 >0 'a &0");
        Notation.write(x, "<0 &0 [1 <1 [0");
        CHECK.same("the errors", Notation.errors(x), "UNMARKED@1 NOT_HERE@1 OPEN@1 NOT_HERE@1 RING@1 NOT_HERE@3 NOT_HERE@4 UNMARKED@5 UNMARKED@5");
    }

    private static void promise26EachPlace() {
        CHECK.about("Promise 26: returns the place");
        OmitMarkup x = any();
        for (int i = 0; i < 60; i++) x.insert(i, OmitMarkup.END, i % 10);
        CHECK.same("errors()", x.errors(), 60);
        for (int i = 0; i < 60; i++) CHECK.same("errorAt(" + i + ")", x.errorAt(i), i);
        x.erase(0);
        x.insert(0, OmitMarkup.START, 0);
        x.erase(10);
        CHECK.same("an END within is none then: the root's is gone", x.errorAt(0), 1);
        x.erase(58);
        for (int place = x.length() - 1; place > 0; place--) {
            if (x.length() > 2) x.erase(1);
        }
        CHECK.same("behind the last token", Notation.errors(x), "NOTHING@1 OPEN@2");
    }
}
