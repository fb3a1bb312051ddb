import java.util.List;
import java.util.function.Consumer;
import java.util.function.Supplier;

/**
 * Terms, Exceptions: every call that is refused, with arguments next to their range and far beyond it: which exception
 * it throws, which one if several apply, and that it changes nothing.
 */
final class RefusalTest {
    private static final Check CHECK = new Check("RefusalTest");
    private static final Class<?> IOOBE = Scenes.IOOBE, IAE = Scenes.IAE, ISE = Scenes.ISE;
    private static final int MIN = Scenes.MIN, MAX = Scenes.MAX;
    private static final boolean[] BOTH = {false, true};
    /** Tokens, of which the first is one; the others have no such sort, or no such value. */
    private static final int[][] ONE_TOKEN_AND_NONE = {{4, 'a'}, {-1, 0}, {9, 0}, {0, 10}, {4, 31}, {7, 4}, {MIN, MIN}, {MAX, MAX}};
    /** The element 9 of the scene has 6 slots, and its entity 5 six tokens. */
    private static final int FULL_ELEMENT = 9, FULL_ENTITY = 5;

    private RefusalTest() { }

    public static void main(String[] args) {
        promise2NoSuchElement();
        promise2SetOutOfRange();
        promise2SlotOfNothing();
        promise2OccurrenceOutOfRange();
        promise2ModelHasSixSlots();
        promise2SlotThatIsNotAdded();
        promise3NoSuchElement();
        promise4NoSuchElement();
        promise4SetsOutOfRange();
        promise5NoSuchElement();
        promise6NoSuchEntity();
        promise6TokenOutOfRange();
        promise6EntityHasSix();
        promise7NoSuchEntity();
        promise8NoSuchSwitch();
        promise8ToIsNoneOfThese();
        promise9NoSuchPlace();
        promise9TokenOutOfRange();
        promise9ThereAreSixty();
        promise10NoSuchPlace();
        promise11NormalFormHasMore();
        promises14To16NoSuchPlace();
        promises18To22NoSuchThing();
        promises25And26NoSuchError();
        promises28And29NoSuchToken();
        promise31MoreThanSixTokens();
        promise31OtherTokens();
        questionsChangeNothing();
        CHECK.end();
    }

    private static void refused(String call, Class<?> due, Consumer<OmitMarkup> refusedCall) {
        Scenes.refused(CHECK, call, due, Scenes::rich, refusedCall);
    }

    private static void refused(String call, Class<?> due, Supplier<OmitMarkup> scene, Consumer<OmitMarkup> refusedCall) {
        Scenes.refused(CHECK, call, due, scene, refusedCall);
    }

    // ---- the grammar

    private static void refusedSlot(Class<?> due, int element, int set, boolean hasData, int occurrence) {
        refused("slot(" + element + ", " + set + ", " + hasData + ", " + occurrence + ")", due, x -> x.slot(element, set, hasData, occurrence));
    }

    private static void promise2NoSuchElement() {
        CHECK.about("Promise 2: IndexOutOfBoundsException if there is no such element, ahead of all others");
        for (int element : Scenes.outside(0, 9)) {
            refusedSlot(IOOBE, element, 4, false, OmitMarkup.ONE);
            refusedSlot(IOOBE, element, -1, true, OmitMarkup.STAR);
            refusedSlot(IOOBE, element, 1024, false, OmitMarkup.PLUS);
            refusedSlot(IOOBE, element, 0, false, OmitMarkup.OPTIONAL);
            refusedSlot(IOOBE, element, 4, true, -1);
            refusedSlot(IOOBE, element, MIN, false, MAX);
        }
    }

    private static void promise2SetOutOfRange() {
        CHECK.about("Promise 2: IllegalArgumentException if set is out of range, ahead of a full model");
        for (int set : Scenes.outside(0, 1023)) {
            for (boolean hasData : BOTH) {
                refusedSlot(IAE, 3, set, hasData, OmitMarkup.ONE);
                refusedSlot(IAE, 3, set, hasData, 4);
                refusedSlot(IAE, FULL_ELEMENT, set, hasData, OmitMarkup.STAR);
            }
        }
    }

    private static void promise2SlotOfNothing() {
        CHECK.about("Promise 2: IllegalArgumentException if the slot would have nothing, ahead of a full model");
        for (int occurrence = OmitMarkup.ONE; occurrence <= OmitMarkup.PLUS; occurrence++) {
            refusedSlot(IAE, 0, 0, false, occurrence);
            refusedSlot(IAE, 7, 0, false, occurrence);
            refusedSlot(IAE, FULL_ELEMENT, 0, false, occurrence);
        }
    }

    private static void promise2OccurrenceOutOfRange() {
        CHECK.about("Promise 2: IllegalArgumentException if occurrence is out of range, ahead of a full model");
        for (int occurrence : Scenes.outside(OmitMarkup.ONE, OmitMarkup.PLUS)) {
            refusedSlot(IAE, 0, 8, false, occurrence);
            refusedSlot(IAE, 3, 0, true, occurrence);
            refusedSlot(IAE, FULL_ELEMENT, 1023, true, occurrence);
        }
    }

    private static void promise2ModelHasSixSlots() {
        CHECK.about("Promise 2: IllegalStateException if the model has 6 slots, also of a slot that would be refused");
        for (int occurrence = OmitMarkup.ONE; occurrence <= OmitMarkup.PLUS; occurrence++) {
            refusedSlot(ISE, FULL_ELEMENT, 4, false, occurrence);
            refusedSlot(ISE, FULL_ELEMENT, 0, true, occurrence);
            refusedSlot(ISE, FULL_ELEMENT, 1023, true, occurrence);
        }
        Supplier<OmitMarkup> clashing = () -> {
            OmitMarkup x = new OmitMarkup();
            Notation.model(x, 0, "1 2 3 4 5 6*");
            return x;
        };
        refused("a seventh slot of the thing of a STAR", ISE, clashing, x -> x.slot(0, 1 << 6, false, OmitMarkup.ONE));
    }

    private static void promise2SlotThatIsNotAdded() {
        CHECK.about("Promise 2: if the model would be refused, the slot is not added");
        int[][] slots = {{0, 1 << 1, 0, 1}, {0, 1 << 9 | 1 << 3, 2, 9}, {1, 1 << 3, 1, 3}, {2, 1 << 4, 0, 4}, {5, 1 << 5, 3, 10}};
        for (int[] s : slots) {
            boolean hasData = s[0] != 2;
            String call = "slot(" + s[0] + ", " + s[1] + ", " + hasData + ", " + s[2] + ")";
            OmitMarkup x = Scenes.rich();
            CHECK.same(call, x.slot(s[0], s[1], hasData, s[2]), s[3]);
            CHECK.same("what questions tell behind " + call, Scenes.questions(x), Scenes.questions(Scenes.rich()));
            OmitMarkup y = Scenes.rich();
            y.slot(s[0], s[1], hasData, s[2]);
            CHECK.same("what comes behind " + call, Scenes.aftermath(y), Scenes.aftermath(Scenes.rich()));
        }
    }

    private static void promise3NoSuchElement() {
        CHECK.about("Promise 3: IndexOutOfBoundsException if there is no such element");
        for (int element : Scenes.outside(0, 9)) {
            refused("empty(" + element + ")", IOOBE, x -> x.empty(element));
        }
    }

    private static void promise4NoSuchElement() {
        CHECK.about("Promise 4: IndexOutOfBoundsException if there is no such element, ahead of all others");
        for (int element : Scenes.outside(0, 9)) {
            refused("except(" + element + ", 3, 4)", IOOBE, x -> x.except(element, 3, 4));
            refused("except(" + element + ", -1, 4)", IOOBE, x -> x.except(element, -1, 4));
            refused("except(" + element + ", 3, 1024)", IOOBE, x -> x.except(element, 3, 1024));
            refused("except(" + element + ", least, greatest)", IOOBE, x -> x.except(element, MIN, MAX));
        }
    }

    private static void promise4SetsOutOfRange() {
        CHECK.about("Promise 4: IllegalArgumentException if includes or excludes is out of range");
        for (int set : Scenes.outside(0, 1023)) {
            for (int element : new int[] {0, 1, 9}) {
                refused("except(" + element + ", " + set + ", 0)", IAE, x -> x.except(element, set, 0));
                refused("except(" + element + ", " + set + ", 1023)", IAE, x -> x.except(element, set, 1023));
                refused("except(" + element + ", 0, " + set + ")", IAE, x -> x.except(element, 0, set));
                refused("except(" + element + ", 1023, " + set + ")", IAE, x -> x.except(element, 1023, set));
                refused("except(" + element + ", " + set + ", " + set + ")", IAE, x -> x.except(element, set, set));
            }
        }
    }

    private static void promise5NoSuchElement() {
        CHECK.about("Promise 5: IndexOutOfBoundsException if there is no such element");
        for (int element : Scenes.outside(0, 9)) {
            for (boolean start : BOTH) {
                for (boolean end : BOTH) {
                    refused("omit(" + element + ", " + start + ", " + end + ")", IOOBE, x -> x.omit(element, start, end));
                }
            }
        }
    }

    // ---- entities, switches

    private static void promise6NoSuchEntity() {
        CHECK.about("Promise 6: IndexOutOfBoundsException if there is no such entity, ahead of all others");
        for (int entity : Scenes.outside(0, 5)) {
            for (int[] t : ONE_TOKEN_AND_NONE) {
                refused("entity(" + entity + ", " + t[0] + ", " + t[1] + ")", IOOBE, x -> x.entity(entity, t[0], t[1]));
            }
        }
    }

    private static void promise6TokenOutOfRange() {
        CHECK.about("Promise 6: IllegalArgumentException if sort or value is out of range, ahead of a full entity");
        for (int entity : new int[] {0, 1, FULL_ENTITY}) {
            for (int sort : Scenes.outside(OmitMarkup.START, OmitMarkup.MARK_END)) {
                refused("entity(" + entity + ", " + sort + ", 0)", IAE, x -> x.entity(entity, sort, 0));
                refused("entity(" + entity + ", " + sort + ", 'a')", IAE, x -> x.entity(entity, sort, 'a'));
            }
            for (int sort = 0; sort < Scenes.VALUES.length; sort++) {
                if (Scenes.VALUES[sort].length == 0) continue;
                int s = sort;
                for (int value : Scenes.outside(Scenes.VALUES[sort][0], Scenes.VALUES[sort][1])) {
                    refused("entity(" + entity + ", " + s + ", " + value + ")", IAE, x -> x.entity(entity, s, value));
                }
            }
        }
    }

    private static void promise6EntityHasSix() {
        CHECK.about("Promise 6: IllegalStateException if it has 6");
        eachToken((sort, value) -> refused("entity(5, " + sort + ", " + value + ")", ISE, x -> x.entity(FULL_ENTITY, sort, value)));
    }

    private static void promise7NoSuchEntity() {
        CHECK.about("Promise 7: IndexOutOfBoundsException if there is no such entity");
        for (int entity : Scenes.outside(0, 5)) {
            refused("clear(" + entity + ")", IOOBE, x -> x.clear(entity));
        }
    }

    private static void promise8NoSuchSwitch() {
        CHECK.about("Promise 8: IndexOutOfBoundsException if there is no such switch, ahead of the other");
        for (int number : Scenes.outside(0, 3)) {
            for (int to : new int[] {OmitMarkup.INCLUDE, OmitMarkup.IGNORE, OmitMarkup.PLAIN, -1, 3, MIN, MAX}) {
                refused("flip(" + number + ", " + to + ")", IOOBE, x -> x.flip(number, to));
            }
        }
    }

    private static void promise8ToIsNoneOfThese() {
        CHECK.about("Promise 8: IllegalArgumentException if to is none of these");
        for (int to : Scenes.outside(OmitMarkup.INCLUDE, OmitMarkup.PLAIN)) {
            for (int number = 0; number <= 3; number++) {
                int n = number;
                refused("flip(" + n + ", " + to + ")", IAE, x -> x.flip(n, to));
            }
        }
    }

    // ---- the text

    private static void promise9NoSuchPlace() {
        CHECK.about("Promise 9: IndexOutOfBoundsException if there is no such place, ahead of all others");
        for (int[] t : ONE_TOKEN_AND_NONE) {
            for (int place : Scenes.outside(0, 0)) {
                refused("insert(" + place + ", " + t[0] + ", " + t[1] + ") of no text", IOOBE, OmitMarkup::new, x -> x.insert(place, t[0], t[1]));
            }
            for (int place : Scenes.outside(0, Scenes.rich().length())) {
                refused("insert(" + place + ", " + t[0] + ", " + t[1] + ")", IOOBE, x -> x.insert(place, t[0], t[1]));
            }
            for (int place : Scenes.outside(0, 60)) {
                refused("insert(" + place + ", " + t[0] + ", " + t[1] + ") of 60", IOOBE, Scenes::sixty, x -> x.insert(place, t[0], t[1]));
            }
        }
    }

    private static void promise9TokenOutOfRange() {
        CHECK.about("Promise 9: IllegalArgumentException if sort or value is out of range, ahead of a full text");
        for (int sort : Scenes.outside(OmitMarkup.START, OmitMarkup.MARK_END)) {
            for (int value : new int[] {0, 'a'}) {
                refused("insert(0, " + sort + ", " + value + ")", IAE, x -> x.insert(0, sort, value));
                refused("insert(60, " + sort + ", " + value + ") of 60", IAE, Scenes::sixty, x -> x.insert(60, sort, value));
            }
        }
        for (int sort = 0; sort < Scenes.VALUES.length; sort++) {
            if (Scenes.VALUES[sort].length == 0) continue;
            int s = sort;
            for (int value : Scenes.outside(Scenes.VALUES[sort][0], Scenes.VALUES[sort][1])) {
                refused("insert(3, " + s + ", " + value + ")", IAE, x -> x.insert(3, s, value));
                refused("insert(0, " + s + ", " + value + ") of no text", IAE, OmitMarkup::new, x -> x.insert(0, s, value));
                refused("insert(0, " + s + ", " + value + ") of 60", IAE, Scenes::sixty, x -> x.insert(0, s, value));
            }
        }
    }

    private static void promise9ThereAreSixty() {
        CHECK.about("Promise 9: IllegalStateException if there are 60");
        for (int place : new int[] {0, 30, 59, 60}) {
            eachToken((sort, value) -> refused("insert(" + place + ", " + sort + ", " + value + ") of 60", ISE, Scenes::sixty,
                x -> x.insert(place, sort, value)));
        }
    }

    private static void promise10NoSuchPlace() {
        CHECK.about("Promise 10: IndexOutOfBoundsException if there is no such place");
        for (int place : Scenes.outside(0, -1)) {
            refused("erase(" + place + ") of no text", IOOBE, OmitMarkup::new, x -> x.erase(place));
        }
        for (int place : Scenes.outside(0, Scenes.rich().length() - 1)) {
            refused("erase(" + place + ")", IOOBE, x -> x.erase(place));
        }
        for (int place : Scenes.outside(0, 59)) {
            refused("erase(" + place + ") of 60", IOOBE, Scenes::sixty, x -> x.erase(place));
        }
    }

    private static void promise11NormalFormHasMore() {
        CHECK.about("Promise 11: IllegalStateException if the normal form has more than 60 tokens");
        for (int tokens : new int[] {61, 62, 63}) {
            CHECK.same("normal()", Scenes.ofNormal(tokens).normal(), tokens);
            refused("normalize() to " + tokens, ISE, () -> Scenes.ofNormal(tokens), OmitMarkup::normalize);
        }
        OmitMarkup x = Scenes.crowd();
        Notation.write(x, "<0 &2 &2 &2 &2 &2 &2 &2 &2 &2");
        CHECK.refused("normalize() to 600", ISE, x::normalize);
        CHECK.same("the text is what it was", x.length() * 1000 + x.things(), 10300);
    }

    // ---- questions

    private static void promises14To16NoSuchPlace() {
        CHECK.about("Promises 14 to 16: IndexOutOfBoundsException if there is no such place");
        for (Supplier<OmitMarkup> scene : scenes()) {
            for (int place : Scenes.outside(0, scene.get().length())) {
                refused("open(" + place + ")", IOOBE, scene, x -> x.open(place));
                refused("current(" + place + ")", IOOBE, scene, x -> x.current(place));
                refused("next(" + place + ")", IOOBE, scene, x -> x.next(place));
            }
        }
    }

    private static void promises18To22NoSuchThing() {
        CHECK.about("Promises 18 to 22: IndexOutOfBoundsException if there is no such thing");
        for (Supplier<OmitMarkup> scene : scenes()) {
            for (int thing : Scenes.outside(0, scene.get().things() - 1)) {
                refused("kind(" + thing + ")", IOOBE, scene, x -> x.kind(thing));
                refused("parent(" + thing + ")", IOOBE, scene, x -> x.parent(thing));
                refused("letter(" + thing + ")", IOOBE, scene, x -> x.letter(thing));
                refused("placeOf(" + thing + ")", IOOBE, scene, x -> x.placeOf(thing));
                refused("isPutIn(" + thing + ")", IOOBE, scene, x -> x.isPutIn(thing));
            }
        }
        OmitMarkup full = Scenes.crowd();
        Scenes.fillUp(full, 300);
        for (int thing : Scenes.outside(0, 299)) {
            CHECK.refused("kind(" + thing + ") of 300", IOOBE, () -> full.kind(thing));
            CHECK.refused("parent(" + thing + ") of 300", IOOBE, () -> full.parent(thing));
            CHECK.refused("letter(" + thing + ") of 300", IOOBE, () -> full.letter(thing));
            CHECK.refused("placeOf(" + thing + ") of 300", IOOBE, () -> full.placeOf(thing));
            CHECK.refused("isPutIn(" + thing + ") of 300", IOOBE, () -> full.isPutIn(thing));
        }
    }

    private static void promises25And26NoSuchError() {
        CHECK.about("Promises 25 and 26: IndexOutOfBoundsException if there is no such error");
        for (Supplier<OmitMarkup> scene : scenes()) {
            for (int error : Scenes.outside(0, scene.get().errors() - 1)) {
                refused("errorKind(" + error + ")", IOOBE, scene, x -> x.errorKind(error));
                refused("errorAt(" + error + ")", IOOBE, scene, x -> x.errorAt(error));
            }
        }
    }

    private static void promises28And29NoSuchToken() {
        CHECK.about("Promises 28 and 29: IndexOutOfBoundsException if there is no such token");
        for (Supplier<OmitMarkup> scene : scenes()) {
            for (int token : Scenes.outside(0, scene.get().normal() - 1)) {
                refused("normalSort(" + token + ")", IOOBE, scene, x -> x.normalSort(token));
                refused("normalValue(" + token + ")", IOOBE, scene, x -> x.normalValue(token));
            }
        }
        OmitMarkup longest = Scenes.crowd();
        Notation.write(longest, "<0 &2 &2 &2 &2 &2 &2 &2 &2 &2");
        for (int token : Scenes.outside(0, 599)) {
            CHECK.refused("normalSort(" + token + ") of 600", IOOBE, () -> longest.normalSort(token));
            CHECK.refused("normalValue(" + token + ") of 600", IOOBE, () -> longest.normalValue(token));
        }
    }

    private static void promise31MoreThanSixTokens() {
        CHECK.about("Promise 31: IllegalStateException if the text has more than 6 tokens");
        refused("ways() of 60", ISE, Scenes::sixty, OmitMarkup::ways);
        refused("ways() of the scene", ISE, OmitMarkup::ways);
        for (String text : new String[] {"<0 'a 'b 'c 'd 'e >0", "'a 'b 'c 'd 'e 'f 'g", "<0 <0 <0 <0 <0 <0 <0", ">0 >0 >0 >0 >0 >0 >0"}) {
            refused("ways() of " + text, ISE, () -> written(text), OmitMarkup::ways);
        }
    }

    private static void promise31OtherTokens() {
        CHECK.about("Promise 31: IllegalStateException if the text has others than START, END and DATA");
        for (String token : "<> >> | &0 &5 [0 [3 ]".split(" ")) {
            for (String text : new String[] {token, token + " <0 'a >0", "<0 " + token + " >0", "<0 'a 'b 'c >0 " + token}) {
                refused("ways() of " + text, ISE, () -> written(text), OmitMarkup::ways);
            }
        }
    }

    private static void questionsChangeNothing() {
        CHECK.about("Terms: questions change nothing");
        List<Consumer<OmitMarkup>> questions = List.of(OmitMarkup::length, OmitMarkup::anew, x -> x.open(1), x -> x.current(1),
            x -> x.next(1), OmitMarkup::things, x -> x.kind(0), x -> x.parent(0), x -> x.letter(0), x -> x.placeOf(0),
            x -> x.isPutIn(0), OmitMarkup::endsPutIn, OmitMarkup::errors, x -> x.errorKind(0), x -> x.errorAt(0),
            OmitMarkup::normal, x -> x.normalSort(0), x -> x.normalValue(0), OmitMarkup::isSame);
        for (int i = 0; i < questions.size(); i++) {
            unchanged("question " + i, Scenes::rich, questions.get(i));
        }
        Supplier<OmitMarkup> few = () -> written("<0 'a 'b >0");
        unchanged("ways()", few, OmitMarkup::ways);
        unchanged("isSame()", few, OmitMarkup::isSame);
        unchanged("isSame() of what is not", () -> {
            OmitMarkup x = written("<0 'a 'b");
            x.slot(0, 2, false, OmitMarkup.ONE);
            return x;
        }, OmitMarkup::isSame);
    }

    private static void unchanged(String what, Supplier<OmitMarkup> scene, Consumer<OmitMarkup> question) {
        OmitMarkup asked = scene.get();
        for (int i = 0; i < 3; i++) question.accept(asked);
        CHECK.same("what questions tell behind " + what, Scenes.questions(asked), Scenes.questions(scene.get()));
        OmitMarkup used = scene.get();
        for (int i = 0; i < 3; i++) question.accept(used);
        CHECK.same("what comes behind " + what, Scenes.aftermath(used), Scenes.aftermath(scene.get()));
    }

    private static OmitMarkup written(String text) {
        OmitMarkup x = new OmitMarkup();
        Notation.model(x, 0, "D*");
        x.omit(0, true, true);
        Notation.write(x, text);
        return x;
    }

    private interface TokenCall {
        void with(int sort, int value);
    }

    /** Each sort with its least and its greatest value; where the value is not looked at, with the least and the greatest int. */
    private static void eachToken(TokenCall call) {
        for (int sort = 0; sort < Scenes.VALUES.length; sort++) {
            boolean isLoose = Scenes.VALUES[sort].length == 0;
            call.with(sort, isLoose ? MIN : Scenes.VALUES[sort][0]);
            call.with(sort, isLoose ? MAX : Scenes.VALUES[sort][1]);
        }
    }

    private static List<Supplier<OmitMarkup>> scenes() {
        return List.of(OmitMarkup::new, Scenes::rich, Scenes::sixty);
    }
}
