import java.util.Collections;

/**
 * Terms, Edits, and promise 13: how many tokens an edit reads anew, each sentence with the least text that tells it,
 * and with texts of 0, 1, 59 and 60 tokens.
 */
final class BoundsOfEditsTest {
    private static final Check CHECK = new Check("BoundsOfEditsTest");

    private BoundsOfEditsTest() { }

    public static void main(String[] args) {
        fromThePlaceOn();
        textsOfNoTokenAndOfOne();
        textsOf59And60Tokens();
        fromOnePlaceAheadIfThereIsALine();
        aLineRightBehindInAnyCase();
        linesAheadAndBehind();
        upToTheFirstPlace();
        rightBehindTheInsertedToken();
        whatItWasBehindTheErasedOne();
        noMarkIsOpen();
        noMarkIsOpenWhereOneIsErased();
        marksWithinMarks();
        marksOfEntitiesAreNotOpenInTheText();
        toTheEndIfThereIsNoSuchPlace();
        stateWhichElementsAreOpen();
        stateHowFarEachModelIsRead();
        stateWhetherSomeWereTaken();
        stateWhichWasOpenedLast();
        stateMarksOpen();
        stateNotHowManyThings();
        allElseIsOfTheWholeText();
        nearlyThreeHundredThings();
        byEachChangeAll();
        CHECK.end();
    }

    /** The root has any 1, 2, 4 and data, 1 has 2 and data, 4 has 2 and data, 2 is EMPTY; no tag may be left out. */
    private static OmitMarkup any() {
        OmitMarkup x = new OmitMarkup();
        Notation.model(x, 0, "124D*");
        Notation.model(x, 1, "2D*");
        Notation.model(x, 4, "2D*");
        return x;
    }

    private static void inserted(OmitMarkup x, String text, int place, String token, int due) {
        Notation.rewrite(x, text);
        x.insert(place, Notation.sort(token), Notation.value(token));
        CHECK.same(token + " into " + text + " at " + place + ": anew()", x.anew(), due);
    }

    private static void inserted(String text, int place, String token, int due) {
        inserted(any(), text, place, token, due);
    }

    private static void erased(OmitMarkup x, String text, int place, int due) {
        Notation.rewrite(x, text);
        x.erase(place);
        CHECK.same(place + " out of " + text + ": anew()", x.anew(), due);
    }

    private static void erased(String text, int place, int due) {
        erased(any(), text, place, due);
    }

    private static String times(int count, String token) {
        return String.join(" ", Collections.nCopies(count, token));
    }

    // ---- where reading begins

    private static void fromThePlaceOn() {
        CHECK.about("Edits: the text is read anew from there on");
        for (int place = 1; place <= 5; place++) {
            inserted("<0 'a 'b 'c 'd", place, "<1", 6 - place);
        }
        inserted("'a <0 'b", 0, "<0", 4);
        for (int place = 1; place <= 4; place++) {
            String[] tokens = {"<0", "'a", "'a", "'a", "'a"};
            tokens[place] = "<1";
            erased(String.join(" ", tokens), place, 4 - place);
        }
        erased("<0 'a 'b", 0, 2);
    }

    private static void textsOfNoTokenAndOfOne() {
        CHECK.about("Edits: of no token, and of one");
        for (String token : "<0 <1 >0 <> >> 'a | &0 [0 ]".split(" ")) {
            inserted("", 0, token, 1);
            erased(token, 0, 0);
            CHECK.same("length()", any().length(), 0);
        }
        inserted("<0", 0, ">9", 1);
        inserted("<0", 1, ">9", 1);
        inserted("|", 0, ">9", 2);
        inserted("|", 1, ">9", 2);
    }

    private static void textsOf59And60Tokens() {
        CHECK.about("Edits: of 59 tokens, and of 60");
        String data = times(59, "'a");
        inserted(data, 0, "<0", 60);
        inserted(data, 0, "'a", 1);
        inserted(data, 59, "'a", 1);
        inserted(data, 59, "<0", 1);
        inserted(data, 58, "<0", 2);
        erased("<0 " + data, 0, 59);
        erased("<0 " + data, 1, 1);
        erased("<0 " + data, 2, 0);
        erased("<0 " + data, 59, 0);
        inserted(times(59, "|"), 30, ">9", 3);
        erased(times(60, "|"), 30, 2);
        erased(times(60, "|"), 0, 1);
        erased(times(60, "|"), 59, 1);
    }

    // ---- lines

    private static void fromOnePlaceAheadIfThereIsALine() {
        CHECK.about("Edits: or from one place ahead of that, if there is a LINE");
        inserted("<0 'a | 'b 'c", 3, "'x", 2);
        inserted("<0 'a | 'b 'c", 3, ">9", 2);
        inserted("<0 'a | 'b 'c", 4, "'x", 1);
        inserted("<0 'a | | 'c", 4, "'x", 2);
        inserted("<0 'a |", 3, ">0", 2);
        inserted("<0 | 'b 'c", 2, "'x", 3);
        inserted("| 'a", 1, ">9", 2);
        inserted("<0 'a | 'b 'c", 3, "<1", 4);
        erased("<0 'a | 'b 'c", 3, 1);
        erased("<0 'a | 'b 'c", 4, 0);
        erased("<0 'a | | 'c", 4, 1);
        erased("<0 'a | >9", 3, 1);
        erased("| 'a", 1, 1);
        // it is the LINE that tells it, not whether it is left out
        inserted("<0 | >0", 2, ">9", 2);
        erased("<0 'a | >9 >0", 3, 1);
    }

    private static void aLineRightBehindInAnyCase() {
        CHECK.about("Edits: if the token right behind the place of the edit is a LINE, that is read anew in any case");
        inserted("<0 'a | 'b", 2, "'x", 2);
        inserted("<0 'a | 'b", 2, ">9", 2);
        inserted("<0 'a | | 'b", 2, "'x", 2);
        inserted("<0 'a 'b | 'c", 2, "'x", 1);
        inserted("<0 'a |", 2, "'x", 2);
        inserted("| 'a", 0, "'x", 2);
        erased("<0 'a 'b | 'c", 2, 1);
        erased("<0 'a 'b 'c | 'd", 2, 0);
        erased("<0 'a 'b | | 'd", 2, 1);
        erased("<0 'a 'b |", 2, 1);
        erased("'a |", 0, 1);
        // the inserted token itself may be a LINE, and the erased one
        inserted("<0 'a 'b", 2, "|", 1);
        inserted("<0 'a | 'b", 2, "|", 2);
        erased("<0 'a | 'b", 2, 0);
        erased("<0 'a | | 'b", 2, 1);
    }

    private static void linesAheadAndBehind() {
        CHECK.about("Edits: a LINE ahead, and one right behind");
        inserted("<0 'a | | 'b", 3, "'x", 3);
        inserted("<0 'a | | 'b", 3, ">9", 3);
        inserted("| |", 1, ">9", 3);
        erased("<0 'a | 'x | 'b", 3, 2);
        erased("<0 'a | >9 | 'b", 3, 2);
        erased("<0 'a | | | 'b", 3, 2);
        erased("| >9 |", 1, 2);
    }

    // ---- where reading ends

    private static void upToTheFirstPlace() {
        CHECK.about("Edits: up to the first place at which the state is what it was with as many tokens behind it");
        // which was opened last differs up to the first 2 behind
        inserted("<0 'a <2 'b <2 'c", 1, "<2", 3);
        inserted("<0 'a 'b 'c <2 'd <2", 1, "<2", 5);
        inserted("<0 'a 'b 'c 'd <2", 1, "<2", 6);
        erased("<0 <2 'a <2 'b <2 'c", 1, 2);
        erased("<0 <2 'a 'b 'c 'd <2", 1, 5);
        // the 1 is open up to its END, in place of the other one's
        inserted("<0 'a <1 'b >1 'c <2 'd", 1, "<1", 4);
        erased("<0 <1 'a >1 'b <1 'c 'd", 3, 3);
        // none was taken of the root's slot up to the first letter
        inserted("<0 >9 >9 'a 'b", 1, "'x", 4);
        erased("<0 'x >9 >9 'a 'b", 1, 3);
    }

    private static void rightBehindTheInsertedToken() {
        CHECK.about("Edits: right behind the inserted token what it was at the place of the edit");
        for (int place = 0; place <= 6; place++) {
            inserted("<0 'a <1 'b >1 'c", place, ">9", 1);
        }
        for (int place = 2; place <= 6; place++) {
            inserted("<0 'a 'b 'c 'd 'e", place, "'x", 1);
        }
        inserted("<0 <2 'a 'b", 3, "<2", 1);
    }

    private static void whatItWasBehindTheErasedOne() {
        CHECK.about("Edits: nothing, if a token that is erased changed no state, no MARK is open there, and there is no LINE ahead of it or behind it");
        for (int place = 0; place <= 6; place++) {
            String[] tokens = "<0 'a <1 'b >1 'c".split(" ");
            StringBuilder text = new StringBuilder();
            for (int i = 0; i < 6; i++) text.append(i == place ? ">9 " : "").append(tokens[i]).append(i < 5 ? " " : "");
            erased(text + (place == 6 ? " >9" : ""), place, 0);
        }
        for (int place = 2; place <= 5; place++) {
            erased("<0 'a 'b 'c 'd 'e", place, 0);
        }
        erased("<0 'a &0 'b", 2, 0);
        CHECK.about("Edits: where a token was erased what it was behind that one");
        erased("<0 'a 'b", 1, 1);
        erased("<0 <1 >1 'a", 2, 1);
    }

    private static void noMarkIsOpen() {
        CHECK.about("Edits: and no MARK is open");
        for (int to = OmitMarkup.INCLUDE; to <= OmitMarkup.PLAIN; to++) {
            OmitMarkup x = any();
            x.flip(1, to);
            for (String token : new String[] {"'x", ">9"}) {
                String text = "<0 'a [1 'b 'c ] 'd";
                inserted(x, text, 2, token, 1);
                inserted(x, text, 3, token, 4);
                inserted(x, text, 4, token, 3);
                inserted(x, text, 5, token, 2);
                inserted(x, text, 6, token, 1);
            }
        }
    }

    private static void noMarkIsOpenWhereOneIsErased() {
        CHECK.about("Edits: and no MARK is open, where a token is erased");
        for (int to = OmitMarkup.INCLUDE; to <= OmitMarkup.PLAIN; to++) {
            OmitMarkup x = any();
            x.flip(2, to);
            String text = "<0 'a 'z [2 'b 'c 'e ] 'd 'f";
            erased(x, text, 2, 0);
            erased(x, text, 4, 3);
            erased(x, text, 5, 2);
            erased(x, text, 6, 1);
            erased(x, text, 8, 0);
            erased(x, text, 9, 0);
        }
    }

    private static void marksWithinMarks() {
        CHECK.about("Edits: no MARK is open: up to the end of the outer one");
        for (int outer = OmitMarkup.INCLUDE; outer <= OmitMarkup.PLAIN; outer++) {
            for (int inner = OmitMarkup.INCLUDE; inner <= OmitMarkup.PLAIN; inner++) {
                OmitMarkup x = any();
                x.flip(0, outer);
                x.flip(1, inner);
                String text = "<0 'a [0 'b [1 'c ] 'd ] 'e";
                inserted(x, text, 5, "'x", 5);
                inserted(x, text, 7, "'x", 3);
                inserted(x, text, 8, "'x", 2);
                inserted(x, text, 9, "'x", 1);
                erased(x, text, 5, 3);
                erased(x, text, 7, 1);
            }
        }
    }

    private static void marksOfEntitiesAreNotOpenInTheText() {
        CHECK.about("Edits: the MARKS that are open in the text");
        OmitMarkup x = any();
        Notation.entity(x, 0, "'p [0 'q");
        Notation.entity(x, 1, "'p [0 'q ]");
        inserted(x, "<0 'a &0 'b", 3, "'x", 1);
        inserted(x, "<0 'a &0 'b", 2, "'x", 1);
        inserted(x, "<0 'a 'b", 2, "&0", 1);
        inserted(x, "<0 'a 'b", 2, "&1", 1);
        erased(x, "<0 'a &0 'b", 2, 0);
    }

    private static void toTheEndIfThereIsNoSuchPlace() {
        CHECK.about("Edits: if there is no such place, it is read anew to its end");
        inserted("<0 [0 'a 'b", 3, "'x", 2);
        inserted("<0 [0 'a 'b", 4, "'x", 1);
        inserted("<0 'a 'b 'c", 1, "[0", 4);
        erased("<0 [0 'a 'b", 2, 1);
        erased("<0 [0 'a 'b", 3, 0);
        erased("<0 'a [0 'b ] 'c 'd", 4, 2);
        inserted("<0 'a 'b >9", 1, ">0", 4);
        inserted("<0 'a >1 >1 >9", 2, "<2", 4);
    }

    // ---- what a state is

    private static void stateWhichElementsAreOpen() {
        CHECK.about("Edits: there is a state of reading: the open elements");
        // the 4 is open in place of the 1; all else is the same behind the 2
        inserted("<0 <1 <2 'a 'b", 1, "<4", 5);
        erased("<0 <4 <1 <2 'a 'b", 1, 4);
        // one more is open, of the same sort
        OmitMarkup y = new OmitMarkup();
        Notation.model(y, 0, "1D*");
        Notation.model(y, 1, "1D*");
        inserted(y, "<0 <1 'a 'b", 1, "<1", 4);
        erased(y, "<0 <1 <1 'a 'b", 1, 3);
        // the outer one is another one, the current one the same
        OmitMarkup x = new OmitMarkup();
        Notation.model(x, 0, "15*");
        Notation.model(x, 1, "3*");
        Notation.model(x, 5, "3*");
        Notation.model(x, 3, "D*");
        inserted(x, "<0 <1 <3 'a 'b", 1, "<5", 5);
    }

    private static void stateHowFarEachModelIsRead() {
        CHECK.about("Edits: each with how far its model is read");
        OmitMarkup x = new OmitMarkup();
        Notation.model(x, 0, "D D D D");
        inserted(x, "<0 'a >9 >9", 2, "'b", 3);
        erased(x, "<0 'a 'b >9 >9", 2, 2);
        // of an outer one: the 1 is included, so that the root's model stays as it was
        OmitMarkup y = new OmitMarkup();
        Notation.model(y, 0, "2? 3?");
        Notation.model(y, 1, "D*");
        y.except(0, 1 << 1, 0);
        inserted(y, "<0 <2 <1 'a 'b", 2, "<3", 4);
        erased(y, "<0 <2 <3 <1 'a 'b", 2, 3);
    }

    private static void stateWhetherSomeWereTaken() {
        CHECK.about("Edits: and whether some were taken of that slot");
        OmitMarkup x = new OmitMarkup();
        Notation.model(x, 0, "D*");
        inserted(x, "<0 >9 >9", 1, "'a", 3);
        inserted(x, "<0 'a >9 >9", 2, "'a", 1);
        erased(x, "<0 'a >9 >9", 1, 2);
        erased(x, "<0 'a 'a >9 >9", 1, 1);
        // of an outer one
        OmitMarkup y = new OmitMarkup();
        Notation.model(y, 0, "2*");
        Notation.model(y, 1, "D*");
        y.except(0, 1 << 1, 0);
        inserted(y, "<0 <1 'a 'b", 1, "<2", 4);
        inserted(y, "<0 <2 <1 'a 'b", 2, "<2", 1);
    }

    private static void stateWhichWasOpenedLast() {
        CHECK.about("Edits: which element was opened last");
        OmitMarkup x = any();
        x.except(0, 1 << 7 | 1 << 8, 0);
        inserted(x, "<0 >9 >9 <8 >9", 1, "<7", 4);
        inserted(x, "<0 <7 >9 >9", 2, "<7", 1);
        inserted(x, "<0 <8 >9 >9", 2, "<7", 3);
        // also when all are closed
        inserted(x, "<0 >0 >9 >9", 1, "<7", 4);
        erased(x, "<0 <7 >0 >9", 1, 2);
    }

    private static void stateMarksOpen() {
        CHECK.about("Edits: and the MARKS that are open in the text");
        inserted("<0 'a 'b ] 'c 'd", 2, "[0", 3);
        erased("<0 'a [0 'b ] 'c 'd", 2, 2);
        inserted("<0 'a ] 'c 'd", 2, "]", 1);
        erased("<0 'a ] 'c 'd", 2, 0);
        inserted("<0 'a [0 'b ] 'c", 4, "]", 2);
        inserted("<0 'a [0 'b 'c ] 'd", 3, "[1", 5);
    }

    private static void stateNotHowManyThings() {
        CHECK.about("Edits: how many things the tree has is no part of it");
        OmitMarkup x = any();
        Notation.entity(x, 0, "'p 'q 'r");
        inserted(x, "<0 'a 'b", 2, "&0", 1);
        erased(x, "<0 'a &0 'b", 2, 0);
        x.except(0, 1 << 2, 0);
        inserted(x, "<0 <2 'a 'b", 2, "<2", 1);
    }

    // ---- what is told of the rest

    private static String allButAnew(OmitMarkup x) {
        return Scenes.questions(x).replaceFirst("anew [0-9]+", "");
    }

    private static void allElseIsOfTheWholeText() {
        CHECK.about("Edits: the tree, the errors and all else are those of reading the whole text");
        String text = "<0 'a <1 'b | <4 >9 [1 'c ] &0 >1 <2 'd | >0";
        String[] tokens = text.split(" ");
        for (int place = 0; place <= tokens.length; place++) {
            StringBuilder with = new StringBuilder();
            for (int i = 0; i <= tokens.length; i++) {
                if (i == place) with.append("<2 ");
                if (i < tokens.length) with.append(tokens[i]).append(' ');
            }
            OmitMarkup edited = any();
            Notation.entity(edited, 0, "'p <1 'q");
            Notation.write(edited, text);
            edited.insert(place, OmitMarkup.START, 2);
            OmitMarkup whole = any();
            Notation.entity(whole, 0, "'p <1 'q");
            Notation.write(whole, with.toString().trim());
            CHECK.same("an insertion at " + place, allButAnew(edited), allButAnew(whole));
            edited.erase(place);
            OmitMarkup ahead = any();
            Notation.entity(ahead, 0, "'p <1 'q");
            Notation.write(ahead, text);
            CHECK.same("its erasure", allButAnew(edited), allButAnew(ahead));
        }
    }

    private static void nearlyThreeHundredThings() {
        CHECK.about("Edits: also where the tree has nearly 300 things; the states tell just how many tokens are read anew");
        OmitMarkup x = Scenes.crowd();
        x.insert(0, OmitMarkup.START, 0);
        Scenes.fillUp(x, 299);
        int end = x.length();
        Notation.write(x, "<1 'y >1");
        CHECK.same("the 1 is the last thing", x.things() * 10 + x.kind(299), 3001);
        CHECK.same("its letter has no room", Notation.errors(x), "DEEP@" + (end + 1));
        x.insert(2, OmitMarkup.DATA, 'w');
        CHECK.same("one letter more: read anew", x.anew(), 1);
        CHECK.same("the 1 has no room", x.things() * 100 + x.kind(299), 30010);
        CHECK.same("nor its letter, nor anything to end", Notation.errors(x), "DEEP@" + (end + 1) + " DEEP@" + (end + 2) + " NOTHING@" + (end + 3));
        CHECK.same("the state behind it", x.open(end + 2) * 10 + x.current(end + 2), 10);
        x.erase(2);
        CHECK.same("and one less: read anew", x.anew(), 0);
        CHECK.same("the 1 has room", Notation.errors(x), "DEEP@" + (end + 1));
        CHECK.same("the state behind it", x.open(end + 1) * 10 + x.current(end + 1), 21);
        x.erase(2);
        CHECK.same("36 less: read anew", x.anew(), 0);
        CHECK.same("all has room", x.things() * 10 + x.errors(), 2650);
    }

    private static void byEachChangeAll() {
        CHECK.about("Promise 13: by a slot() that adds a slot, and by each call of empty(), except(), omit(), entity(), clear(), flip() and normalize(), all of them are");
        for (int tokens : new int[] {0, 1, 4, 59}) {
            for (int change = 0; change < 9; change++) {
                OmitMarkup x = any();
                for (int i = 0; i < tokens; i++) x.insert(i, OmitMarkup.END, 9);
                CHECK.same("an edit ahead", x.anew(), tokens == 0 ? 0 : 1);
                change(x, change);
                CHECK.same("change " + change + " of " + tokens, x.anew(), tokens);
                // also if nothing changes by it, but for a slot that is not added
                x.insert(0, OmitMarkup.END, 9 - tokens % 2);
                x.erase(0);
                CHECK.same("an edit between", x.anew(), 0);
                change(x, change);
                CHECK.same("change " + change + " again", x.anew(), tokens);
                x.insert(tokens, OmitMarkup.END, 9);
                change(x, change);
                CHECK.same("change " + change + " of one more", x.anew(), tokens + 1);
            }
        }
        OmitMarkup x = any();
        Notation.write(x, "<0 'a 'b");
        CHECK.same("a slot that is not added", x.slot(0, 2, false, OmitMarkup.ONE), 1);
        CHECK.same("reads nothing anew", x.anew(), 1);
        CHECK.same("normalize()", x.normalize(), 4);
        CHECK.same("reads the new text", x.anew(), 4);
    }

    private static void change(OmitMarkup x, int which) {
        switch (which) {
            case 0 -> x.slot(7, 1, false, OmitMarkup.ONE);
            case 1 -> x.empty(8);
            case 2 -> x.except(8, 0, 0);
            case 3 -> x.omit(8, false, false);
            case 4 -> x.entity(5, OmitMarkup.DATA, 'a');
            case 5 -> x.clear(4);
            case 6 -> x.flip(3, OmitMarkup.INCLUDE);
            case 7 -> x.flip(2, OmitMarkup.PLAIN);
            default -> x.except(3, 1023, 1023);
        }
    }
}
