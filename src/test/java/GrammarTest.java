/** Promises 1 to 5: a new object, and the calls of the grammar. */
final class GrammarTest {
    private static final Check CHECK = new Check("GrammarTest");
    private static final Class<?> IOOBE = IndexOutOfBoundsException.class;
    private static final Class<?> IAE = IllegalArgumentException.class;
    private static final Class<?> ISE = IllegalStateException.class;

    private GrammarTest() { }

    public static void main(String[] args) {
        newObject();
        slotRefuses();
        slotAsksEachReach();
        slotArguments();
        slotThatIsRefusedChangesNothing();
        empties();
        excepts();
        omits();
        eachChangeReadsAllAnew();
        CHECK.end();
    }

    private static void newObject() {
        OmitMarkup x = new OmitMarkup();
        CHECK.same("length of a new one", x.length(), 0);
        CHECK.same("anew of a new one", x.anew(), 0);
        CHECK.same("open", x.open(0), 0);
        CHECK.same("current", x.current(0), OmitMarkup.NONE);
        CHECK.same("next", x.next(0), 0);
        CHECK.same("things, errors, ends, normal", x.things() + x.errors() + x.endsPutIn() + x.normal(), 0);
        CHECK.same("isSame of a new one", x.isSame(), true);
        CHECK.same("ways of a new one", x.ways(), 1);
        for (int e = 0; e < 10; e++) {
            CHECK.same("slots of a new element", x.empty(e), 0);
        }
        for (int s = 0; s < 4; s++) {
            CHECK.same("a new switch", x.flip(s, OmitMarkup.INCLUDE), OmitMarkup.INCLUDE);
        }
        for (int e = 0; e < 6; e++) {
            CHECK.same("tokens of a new entity", x.clear(e), 0);
        }
        // EMPTY elements: the root is closed at once, without a tag that was put in
        Notation.write(x, "<0 'a");
        CHECK.same("an EMPTY root", Notation.tree(x), "0()");
        CHECK.same("nothing behind it", Notation.errors(x), "NOT_HERE@1");
        CHECK.same("no end tag put in", x.endsPutIn(), 0);
        // no tag may be left out at first
        x = new OmitMarkup();
        Notation.model(x, 0, "D*");
        Notation.write(x, "'a <0");
        CHECK.same("no start tag is put in at first", Notation.errors(x), "NOT_HERE@0 OPEN@2");
    }

    private static int tried(String slots, int set, boolean data, int occurrence) {
        OmitMarkup x = new OmitMarkup();
        if (!slots.isEmpty()) Notation.model(x, 3, slots);
        return x.slot(3, set, data, occurrence);
    }

    private static void slotRefuses() {
        int one = OmitMarkup.ONE, opt = OmitMarkup.OPTIONAL, star = OmitMarkup.STAR, plus = OmitMarkup.PLUS;
        CHECK.same("1 1", tried("1", 2, false, one), OmitMarkup.NONE);
        CHECK.same("1? 1", tried("1?", 2, false, one), 1);
        CHECK.same("1* 1", tried("1*", 2, false, one), 1);
        CHECK.same("1+ 1", tried("1+", 2, false, one), 1);
        CHECK.same("1+ 1?", tried("1+", 2, false, opt), 1);
        CHECK.same("1 1*", tried("1", 2, false, star), OmitMarkup.NONE);
        CHECK.same("1 1+", tried("1", 2, false, plus), OmitMarkup.NONE);
        CHECK.same("1? 2 1", tried("1? 2", 2, false, one), OmitMarkup.NONE);
        CHECK.same("1? 2? 1", tried("1? 2?", 2, false, one), 1);
        CHECK.same("1+ 2? 1", tried("1+ 2?", 2, false, one), 1);
        CHECK.same("1 2? 2", tried("1 2?", 4, false, one), 2);
        CHECK.same("D* D", tried("D*", 0, true, one), 10);
        CHECK.same("0? 0D", tried("0?", 1, true, one), 0);
        CHECK.same("the lowest of all reaches: 93? 39", tried("39?", 8 + 512, true, one), 3);
        CHECK.same("5? 5*", tried("5?", 32, false, star), 5);
        CHECK.same("data and an element: 9D? 9D", tried("9D?", 512, true, one), 9);
    }

    private static void slotAsksEachReach() {
        // 7 clashes right at the start, 2 only behind the first slot
        OmitMarkup x = new OmitMarkup();
        Notation.model(x, 0, "27*");
        CHECK.same("27* 7", x.slot(0, 128, false, OmitMarkup.ONE), 7);
        // 8? clashes as far as none was taken of slot 0; 1 only between the slots 1 and 2
        x = new OmitMarkup();
        Notation.model(x, 0, "8? 1*");
        CHECK.same("8? 1* 18", x.slot(0, 2 + 256, false, OmitMarkup.ONE), 1);
        CHECK.same("8? 1* 8", x.slot(0, 256, false, OmitMarkup.ONE), 8);
        CHECK.same("8? 1* 2", x.slot(0, 4, false, OmitMarkup.ONE), OmitMarkup.NONE);
        // a clash that only a reach with some taken shows: 4+ 5? 4
        x = new OmitMarkup();
        Notation.model(x, 0, "4+ 5?");
        CHECK.same("4+ 5? 4", x.slot(0, 16, false, OmitMarkup.OPTIONAL), 4);
    }

    private static void slotArguments() {
        OmitMarkup x = new OmitMarkup();
        CHECK.refused("slot(-1)", IOOBE, () -> x.slot(-1, 1, false, 0));
        CHECK.refused("slot(10)", IOOBE, () -> x.slot(10, 1, false, 0));
        CHECK.refused("slot(10, -1)", IOOBE, () -> x.slot(10, -1, false, 9));
        CHECK.refused("set -1", IAE, () -> x.slot(0, -1, true, 0));
        CHECK.refused("set 1024", IAE, () -> x.slot(0, 1024, true, 0));
        CHECK.refused("occurrence -1", IAE, () -> x.slot(0, 1, false, -1));
        CHECK.refused("occurrence 4", IAE, () -> x.slot(0, 1, false, 4));
        CHECK.refused("a slot of nothing", IAE, () -> x.slot(0, 0, false, 0));
        CHECK.refused("least int", IAE, () -> x.slot(0, Integer.MIN_VALUE, true, 0));
        CHECK.same("1023 and data", x.slot(9, 1023, true, 3), OmitMarkup.NONE);
        Notation.model(x, 0, "1 1 1 1 1 1");
        CHECK.refused("a seventh slot", ISE, () -> x.slot(0, 4, false, 0));
        CHECK.refused("a seventh slot that would be refused", ISE, () -> x.slot(0, 2, false, 0));
        CHECK.refused("a seventh slot of nothing", IAE, () -> x.slot(0, 0, false, 0));
        CHECK.same("six slots stand", x.empty(0), 6);
    }

    private static void slotThatIsRefusedChangesNothing() {
        OmitMarkup x = new OmitMarkup();
        Notation.model(x, 0, "1?");
        Notation.write(x, "<0 <1");
        x.erase(1);
        CHECK.same("anew ahead", x.anew(), 0);
        CHECK.same("refused", x.slot(0, 2, true, OmitMarkup.STAR), 1);
        CHECK.same("anew as it was", x.anew(), 0);
        CHECK.same("the model as it was", x.next(1), 2);
        CHECK.same("data can be added behind", x.slot(0, 0, true, OmitMarkup.STAR), OmitMarkup.NONE);
        CHECK.same("then all was read anew", x.anew(), 1);
        CHECK.same("the model has both", x.next(1), 1024 + 2);
        CHECK.same("it has two slots", x.empty(0), 2);
    }

    private static void empties() {
        OmitMarkup x = new OmitMarkup();
        Notation.model(x, 0, "1 D*");
        Notation.model(x, 1, "D*");
        Notation.write(x, "<0 <1 'a >1 'b >0");
        CHECK.same("ahead", Notation.tree(x), "0(1(a)b)");
        CHECK.same("empty(1)", x.empty(1), 1);
        CHECK.same("the element is EMPTY", Notation.tree(x), "0(1()ab)");
        CHECK.same("its end tag has nothing to end", Notation.errors(x), "NOTHING@3");
        CHECK.same("empty(1) again", x.empty(1), 0);
        CHECK.same("a slot goes to the front then", x.slot(1, 0, true, OmitMarkup.OPTIONAL), OmitMarkup.NONE);
        CHECK.same("one slot", Notation.tree(x), "0(1(a)b)");
        CHECK.refused("empty(-1)", IOOBE, () -> x.empty(-1));
        CHECK.refused("empty(10)", IOOBE, () -> x.empty(10));
    }

    private static void excepts() {
        OmitMarkup x = new OmitMarkup();
        Notation.model(x, 0, "1*");
        Notation.model(x, 1, "12*");
        Notation.model(x, 2, "D*");
        Notation.write(x, "<0 <2");
        CHECK.same("not included", Notation.errors(x), "NOT_HERE@1 OPEN@2");
        x.except(0, 4, 0);
        CHECK.same("included", Notation.tree(x), "0(2())");
        x.except(0, 0, 0);
        CHECK.same("set anew: no longer included", Notation.tree(x), "0()");
        Notation.rewrite(x, "<0 <1 <1");
        CHECK.same("1 within 1", Notation.tree(x), "0(1(1()))");
        x.except(1, 0, 2);
        CHECK.same("1 excludes itself", Notation.tree(x), "0(1())");
        x.except(1, 2, 2);
        CHECK.same("what is excluded is not included", Notation.tree(x), "0(1())");
        x.except(1, 0, 0);
        x.except(0, 0, 1023);
        CHECK.same("the root excludes all", Notation.tree(x), "0()");
        CHECK.refused("except(-1)", IOOBE, () -> x.except(-1, 0, 0));
        CHECK.refused("except(10)", IOOBE, () -> x.except(10, -1, 0));
        CHECK.refused("includes -1", IAE, () -> x.except(0, -1, 0));
        CHECK.refused("includes 1024", IAE, () -> x.except(0, 1024, 0));
        CHECK.refused("excludes -1", IAE, () -> x.except(0, 0, -1));
        CHECK.refused("excludes 1024", IAE, () -> x.except(0, 0, 1024));
        CHECK.same("nothing changed", Notation.tree(x), "0()");
        x.except(0, 1023, 0);
        CHECK.same("1023 is a set", Notation.tree(x), "0(1(1()))");
    }

    private static void omits() {
        OmitMarkup x = new OmitMarkup();
        Notation.model(x, 0, "1*");
        Notation.model(x, 1, "D*");
        Notation.write(x, "<1 'a");
        CHECK.same("no root", Notation.tree(x), "");
        x.omit(0, true, false);
        CHECK.same("the root is put in", Notation.tree(x), "0+(1(a))");
        CHECK.same("both stay open", Notation.errors(x), "OPEN@2 OPEN@2");
        x.omit(0, true, true);
        CHECK.same("one stays open", Notation.errors(x), "OPEN@2");
        x.omit(1, false, true);
        CHECK.same("none stays open", Notation.errors(x), "");
        x.omit(0, false, true);
        CHECK.same("no root again", Notation.errors(x), "NOT_HERE@0 NOT_HERE@1");
        CHECK.refused("omit(-1)", IOOBE, () -> x.omit(-1, true, true));
        CHECK.refused("omit(10)", IOOBE, () -> x.omit(10, true, true));
    }

    private static void eachChangeReadsAllAnew() {
        OmitMarkup x = new OmitMarkup();
        Notation.write(x, "<0 'a 'b");
        CHECK.same("after an edit", x.anew(), 1);
        x.empty(5);
        CHECK.same("empty() reads all", x.anew(), 3);
        x.insert(3, OmitMarkup.DATA, 'c');
        x.except(5, 0, 0);
        CHECK.same("except() reads all", x.anew(), 4);
        x.insert(4, OmitMarkup.DATA, 'c');
        x.omit(5, false, false);
        CHECK.same("omit() reads all", x.anew(), 5);
        x.insert(5, OmitMarkup.DATA, 'c');
        CHECK.same("an edit reads few", x.anew(), 1);
        CHECK.refused("a wrong call", IOOBE, () -> x.empty(10));
        CHECK.refused("a wrong call", IAE, () -> x.except(0, 1024, 0));
        CHECK.refused("a wrong call", IOOBE, () -> x.omit(10, true, true));
        CHECK.refused("a wrong call", IAE, () -> x.slot(0, 0, false, 0));
        CHECK.same("reads nothing", x.anew(), 1);
        x.slot(5, 1, false, 0);
        CHECK.same("slot() reads all", x.anew(), 6);
    }
}
