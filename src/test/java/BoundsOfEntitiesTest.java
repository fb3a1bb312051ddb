/**
 * Promises 6 to 8 and Terms, Texts: each sentence that names a bound of entities and switches, just inside it and at
 * it. What is beyond is refused, see RefusalTest; what ENTITY and MARK tokens read is in BoundsOfRowsTest.
 */
final class BoundsOfEntitiesTest {
    private static final Check CHECK = new Check("BoundsOfEntitiesTest");
    private static final int INCLUDE = OmitMarkup.INCLUDE, IGNORE = OmitMarkup.IGNORE, PLAIN = OmitMarkup.PLAIN;

    private BoundsOfEntitiesTest() { }

    public static void main(String[] args) {
        promise6Entity0To5();
        promise6StartToMarkEnd();
        promise6ValuesOfStartAndEnd();
        promise6ValuesOfData();
        promise6ValuesOfEntity();
        promise6ValuesOfMark();
        promise6NotLookedAtForOthers();
        promise6ReturnsHowManyTokens();
        promise6BehindThoseOfTheEntity();
        promise7Entity0To5();
        promise7ReturnsHowManyItHad();
        promise8Number0To3();
        promise8ReturnsWhatItWas();
        promise8EachPosition();
        CHECK.end();
    }

    /** The root has any elements and data; 1 and 9 have data, the others are EMPTY. */
    private static OmitMarkup any() {
        OmitMarkup x = new OmitMarkup();
        Notation.model(x, 0, "0123456789D*");
        Notation.model(x, 1, "D*");
        Notation.model(x, 9, "D*");
        return x;
    }

    private static void reads(OmitMarkup x, String text, String tree, String errors) {
        Notation.rewrite(x, text);
        CHECK.same("the tree of " + text, Notation.tree(x), tree);
        CHECK.same("the errors of " + text, Notation.errors(x), errors);
    }

    /** Makes those tokens the entity 3. */
    private static void third(OmitMarkup x, String row) {
        x.clear(3);
        Notation.entity(x, 3, row);
    }

    private static void promise6Entity0To5() {
        CHECK.about("Promise 6, entity: 0 to 5");
        OmitMarkup x = any();
        for (int e = 0; e <= 5; e++) {
            CHECK.same("entity(" + e + ")", x.entity(e, OmitMarkup.DATA, 'a' + e), 1);
        }
        reads(x, "<0 &5 &4 &3 &2 &1 &0 >0", "0(fedcba)", "");
    }

    private static void promise6StartToMarkEnd() {
        CHECK.about("Promise 6, sort: START to MARK_END");
        OmitMarkup x = any();
        String[] rows = {"<2", ">0", "<2 <>", ">>", "'x", "|", "&1", "[0 'y ]", "]"};
        String[] trees = {"0(2())", "0()", "0(2()2())", "0()", "0(x)", "0(_)", "0()", "0(y)", "0()"};
        String[] errors = {"", "NOTHING@2", "", "NOTHING@2", "", "", "", "", "UNMARKED@1"};
        for (int sort = OmitMarkup.START; sort <= OmitMarkup.MARK_END; sort++) {
            third(x, rows[sort]);
            reads(x, "<0 &3 >0", trees[sort], errors[sort]);
        }
    }

    private static void promise6ValuesOfStartAndEnd() {
        CHECK.about("Promise 6, value: 0 to 9 for START and END");
        for (int value = 0; value <= 9; value++) {
            OmitMarkup x = any();
            Notation.model(x, value == 0 || value == 1 || value == 9 ? 2 : value, "D*");
            CHECK.same("START", x.entity(3, OmitMarkup.START, value), 1);
            CHECK.same("END", x.entity(3, OmitMarkup.END, value), 2);
            reads(x, "<0 &3 >0", "0(" + value + "())", "");
        }
    }

    private static void promise6ValuesOfData() {
        CHECK.about("Promise 6, value: ' ' to '~' as a number for DATA");
        for (int value = ' '; value <= '~'; value++) {
            OmitMarkup x = any();
            CHECK.same("DATA " + value, x.entity(0, OmitMarkup.DATA, value), 1);
            Notation.write(x, "<0 &0");
            CHECK.same("its letter", x.letter(1), value);
        }
    }

    private static void promise6ValuesOfEntity() {
        CHECK.about("Promise 6, value: 0 to 5 for ENTITY");
        for (int value = 0; value <= 5; value++) {
            OmitMarkup x = any();
            int from = value == 2 ? 3 : 2;
            CHECK.same("ENTITY " + value, x.entity(from, OmitMarkup.ENTITY, value), 1);
            Notation.entity(x, value, "'" + value);
            reads(x, "<0 &" + from + " >0", "0(" + value + ")", "");
        }
    }

    private static void promise6ValuesOfMark() {
        CHECK.about("Promise 6, value: 0 to 3 for MARK");
        for (int value = 0; value <= 3; value++) {
            OmitMarkup x = any();
            CHECK.same("MARK " + value, x.entity(0, OmitMarkup.MARK, value), 1);
            Notation.entity(x, 0, "<2 ] 'z");
            x.flip(value, PLAIN);
            reads(x, "<0 &0 >0", "0(*z)", "");
            x.flip(value, IGNORE);
            reads(x, "<0 &0 >0", "0(z)", "");
        }
    }

    private static void promise6NotLookedAtForOthers() {
        CHECK.about("Promise 6, value: not looked at for others");
        for (int value : new int[] {Scenes.MIN, -1, 0, 10, 127, 65536, Scenes.MAX}) {
            OmitMarkup x = any();
            int count = 0;
            for (int sort : Scenes.LOOSE) {
                CHECK.same("sort " + sort + ", value " + value, x.entity(0, sort, value), ++count);
            }
            reads(x, "<0 <1 >1 &0 >0", "0(1()1()_)", "UNMARKED@3");
        }
    }

    private static void promise6ReturnsHowManyTokens() {
        CHECK.about("Texts: an entity is a row of at most 6 tokens");
        for (int e : new int[] {0, 5}) {
            OmitMarkup x = any();
            Notation.write(x, "<0 &" + e);
            for (int i = 1; i <= 6; i++) {
                CHECK.same("token " + i, x.entity(e, OmitMarkup.DATA, 'a'), i);
                CHECK.same("things", x.things(), 1 + i);
                CHECK.same("anew", x.anew(), 2);
            }
            CHECK.refused("token 7", Scenes.ISE, () -> x.entity(e, OmitMarkup.DATA, 'a'));
            CHECK.same("six are read", x.things(), 7);
            CHECK.same("a row of its own", x.entity(e == 0 ? 5 : 0, OmitMarkup.DATA, 'a'), 1);
        }
    }

    private static void promise6BehindThoseOfTheEntity() {
        CHECK.about("Promise 6: puts a token behind those of an entity");
        OmitMarkup x = any();
        Notation.write(x, "<0 &4");
        String letters = "";
        for (char c = 'a'; c <= 'f'; c++) {
            x.entity(4, OmitMarkup.DATA, c);
            letters += c;
            CHECK.same("the tree", Notation.tree(x), "0(" + letters + ")");
        }
    }

    private static void promise7Entity0To5() {
        CHECK.about("Promise 7, entity: 0 to 5");
        for (int e = 0; e <= 5; e++) {
            OmitMarkup x = any();
            for (int i = 0; i <= 5; i++) x.entity(i, OmitMarkup.DATA, 'a' + i);
            CHECK.same("clear(" + e + ")", x.clear(e), 1);
            Notation.write(x, "<0 &0 &1 &2 &3 &4 &5");
            CHECK.same("that one alone", Notation.tree(x), "0(" + "abcdef".replace("" + (char) ('a' + e), "") + ")");
        }
    }

    private static void promise7ReturnsHowManyItHad() {
        CHECK.about("Promise 7: returns how many tokens it had");
        for (int tokens = 0; tokens <= 6; tokens++) {
            OmitMarkup x = any();
            for (int i = 0; i < tokens; i++) x.entity(5, OmitMarkup.LINE, i);
            CHECK.same("clear(5) of " + tokens, x.clear(5), tokens);
            CHECK.same("clear(5) again", x.clear(5), 0);
            for (int i = 1; i <= 6; i++) CHECK.same("it may have six again", x.entity(5, OmitMarkup.DATA, 'n'), i);
            reads(x, "<0 &5 >0", "0(nnnnnn)", "");
        }
    }

    private static void promise8Number0To3() {
        CHECK.about("Promise 8, number: 0 to 3");
        for (int s = 0; s <= 3; s++) {
            OmitMarkup x = any();
            Notation.write(x, "<0 [0 'a ] [1 'b ] [2 'c ] [3 'd ]");
            CHECK.same("flip(" + s + ")", x.flip(s, IGNORE), INCLUDE);
            CHECK.same("that one alone", Notation.tree(x), "0(" + "abcd".replace("" + (char) ('a' + s), "") + ")");
        }
    }

    private static void promise8ReturnsWhatItWas() {
        CHECK.about("Promise 8: returns what it was");
        for (int s = 0; s <= 3; s++) {
            OmitMarkup x = any();
            int was = INCLUDE;
            for (int to : new int[] {INCLUDE, IGNORE, IGNORE, PLAIN, PLAIN, IGNORE, INCLUDE, PLAIN, INCLUDE, INCLUDE}) {
                CHECK.same("flip(" + s + ", " + to + ")", x.flip(s, to), was);
                was = to;
            }
        }
    }

    private static void promise8EachPosition() {
        CHECK.about("Promise 8, to: INCLUDE, IGNORE or PLAIN");
        OmitMarkup x = any();
        Notation.write(x, "<0 [3 <1 ] 'z");
        x.flip(3, IGNORE);
        CHECK.same("IGNORE", Notation.tree(x), "0(z)");
        x.flip(3, PLAIN);
        CHECK.same("PLAIN", Notation.tree(x), "0(*z)");
        x.flip(3, INCLUDE);
        CHECK.same("INCLUDE", Notation.tree(x), "0(1(z))");
    }
}
