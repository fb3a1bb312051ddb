import java.util.Collections;

/**
 * Terms, Reading, of the tokens that depend on their row: LINE, ENTITY, MARK and MARK_END, at the first and the last
 * token of the text and of an entity, entities within entities, and marked parts of each sort.
 */
final class BoundsOfRowsTest {
    private static final Check CHECK = new Check("BoundsOfRowsTest");
    private static final int INCLUDE = OmitMarkup.INCLUDE, IGNORE = OmitMarkup.IGNORE, PLAIN = OmitMarkup.PLAIN;
    /** A token of each sort, from START to MARK_END, that may stand within a 3 behind a letter. */
    private static final String[] EACH_SORT = {"<2", ">9", "<>", ">>", "'b", "|", "&0", "[0", "]"};

    private BoundsOfRowsTest() { }

    public static void main(String[] args) {
        lineBetweenEachTwoTokens();
        lineBetweenEachTwoTokensOfAnEntity();
        lineAtTheFirstAndTheLastToken();
        lineAtTheFirstAndTheLastTokenOfAnEntity();
        lineRightAheadAndRightBehindAlone();
        lineWhoseTagsAreErrors();
        entityStandsWithinThatEntity();
        entityStandsWithinTwoOthers();
        entityOfNoTokensAndOfSix();
        entityIsGoneThroughThere();
        markIncluded();
        markIgnored();
        markPlain();
        markOfNothing();
        markAtTheFirstAndTheLastToken();
        markCountsForItsMarkEndAlone();
        markEndsWithItsRow();
        unmarkedForEachMark();
        unmarkedAheadOfTheClosing();
        markEndWithoutAMark();
        sixtyMarks();
        errorsOfAllTokens();
        CHECK.end();
    }

    /** The root and 3 have any 2, 3 and data, 2 is EMPTY; only the root's tags may be left out. */
    private static OmitMarkup any() {
        OmitMarkup x = new OmitMarkup();
        Notation.model(x, 0, "23D*");
        Notation.model(x, 3, "23D*");
        x.omit(0, true, true);
        return x;
    }

    private static void reads(OmitMarkup x, String text, String tree, String errors) {
        Notation.rewrite(x, text);
        CHECK.same("the tree of " + text, Notation.tree(x), tree);
        CHECK.same("the errors of " + text, Notation.errors(x), errors);
    }

    private static int blanks(OmitMarkup x) {
        int count = 0;
        for (int i = 0; i < x.things(); i++) count += x.letter(i) == ' ' ? 1 : 0;
        return count;
    }

    // ---- LINE

    /** How many of the LINEs are read between two sorts of tokens: what is a LINE itself is read in any case. */
    private static int linesDue(int ahead, int behind) {
        boolean isLeftOut = ahead == OmitMarkup.START || ahead == OmitMarkup.EMPTY_START
            || behind == OmitMarkup.END || behind == OmitMarkup.EMPTY_END;
        return (isLeftOut ? 0 : 1) + (ahead == OmitMarkup.LINE ? 1 : 0) + (behind == OmitMarkup.LINE ? 1 : 0);
    }

    private static void lineBetweenEachTwoTokens() {
        CHECK.about("Reading: LINE is left out, if right ahead is a START or an EMPTY_START, or right behind an END or an EMPTY_END");
        for (int ahead = 0; ahead < 9; ahead++) {
            for (int behind = 0; behind < 9; behind++) {
                OmitMarkup x = any();
                Notation.entity(x, 0, "'q");
                Notation.write(x, "<0 <3 'a " + EACH_SORT[ahead] + " | " + EACH_SORT[behind]);
                CHECK.same("LINEs between " + EACH_SORT[ahead] + " and " + EACH_SORT[behind], blanks(x), linesDue(ahead, behind));
            }
        }
    }

    private static void lineBetweenEachTwoTokensOfAnEntity() {
        CHECK.about("Reading: LINE: in the row in which it stands");
        for (int ahead = 0; ahead < 9; ahead++) {
            for (int behind = 0; behind < 9; behind++) {
                OmitMarkup x = any();
                Notation.entity(x, 0, "'q");
                Notation.entity(x, 1, "'a " + EACH_SORT[ahead] + " | " + EACH_SORT[behind]);
                Notation.write(x, "<0 <3 &1");
                CHECK.same("LINEs between " + EACH_SORT[ahead] + " and " + EACH_SORT[behind], blanks(x), linesDue(ahead, behind));
            }
        }
    }

    private static void lineAtTheFirstAndTheLastToken() {
        CHECK.about("Reading: LINE as the first token of the text, and as the last");
        reads(any(), "|", "0+(_)", "");
        reads(any(), "| |", "0+(__)", "");
        reads(any(), "| 'a |", "0+(_a_)", "");
        reads(any(), "| >9", "", "NOTHING@1");
        reads(any(), "<0 |", "0()", "");
        reads(any(), "<0 | >0", "0()", "");
        reads(any(), "<0 >0 |", "0()", "NOT_HERE@2");
        OmitMarkup x = any();
        x.insert(0, OmitMarkup.START, 0);
        for (int i = 1; i < 60; i++) x.insert(i, OmitMarkup.LINE, 0);
        CHECK.same("59 LINEs behind a START", blanks(x), 58);
        OmitMarkup y = any();
        for (int i = 0; i < 60; i++) y.insert(0, OmitMarkup.LINE, 0);
        CHECK.same("60 LINEs", blanks(y), 60);
        y.erase(59);
        y.insert(59, OmitMarkup.END, 0);
        CHECK.same("59 LINEs ahead of an END", blanks(y), 58);
    }

    private static void lineAtTheFirstAndTheLastTokenOfAnEntity() {
        CHECK.about("Reading: LINE as the first token of an entity, and as the last: tokens of the text are of another row");
        OmitMarkup x = any();
        Notation.entity(x, 0, "|");
        Notation.entity(x, 1, "| 'q |");
        Notation.entity(x, 2, "<2");
        Notation.entity(x, 3, ">9");
        Notation.entity(x, 4, "&0 >9");
        reads(x, "<0 &0 >0", "0(_)", "");
        reads(x, "<0 &1 >0", "0(_q_)", "");
        reads(x, "<0 <3 &0 >>", "0(3(_))", "");
        reads(x, "<0 &2 | >0", "0(2())", "");
        reads(x, "<0 &2 | 'a", "0(2()_a)", "");
        reads(x, "<0 'a | &3", "0(a_)", "NOTHING@3");
        reads(x, "<0 &4", "0(_)", "NOTHING@1");
        reads(x, "<0 &2 &0 &3", "0(2()_)", "NOTHING@3");
    }

    private static void lineRightAheadAndRightBehindAlone() {
        CHECK.about("Reading: LINE: the token right ahead of it, the one right behind it");
        reads(any(), "<0 'a | 'b >0", "0(a_b)", "");
        reads(any(), "<0 | | >0", "0()", "");
        reads(any(), "<0 | | | >0", "0(_)", "");
        reads(any(), "<0 | | | | >0", "0(__)", "");
        reads(any(), "<0 'a >0 |", "0(a)", "NOT_HERE@3");
        reads(any(), "<0 <3 >3 | <3 >3", "0(3()_3())", "");
        reads(any(), "<0 [0 | ] >0", "0(_)", "");
        reads(any(), "<0 | [0 ] >0", "0()", "");
        reads(any(), "<0 [0 ] | >0", "0()", "");
    }

    private static void lineWhoseTagsAreErrors() {
        CHECK.about("Reading: LINE is left out beside a tag, also if that tag is left out");
        reads(any(), "<0 <9 | 'a", "0(a)", "NOT_HERE@1");
        reads(any(), "<0 'a | >9", "0(a)", "NOTHING@3");
        reads(any(), "<> | 'a", "0+(a)", "NOTHING@0");
        reads(any(), "| >> 'a", "0+(a)", "NOTHING@1");
    }

    // ---- ENTITY

    private static void entityStandsWithinThatEntity() {
        CHECK.about("Reading: ENTITY is left out, with the error RING, if it stands within that entity");
        for (int e = 0; e <= 5; e++) {
            OmitMarkup x = any();
            Notation.entity(x, e, "'a &" + e + " 'b");
            reads(x, "<0 &" + e, "0(ab)", "RING@1");
        }
        OmitMarkup x = any();
        Notation.entity(x, 0, "'a &1");
        Notation.entity(x, 1, "'b &0 'c");
        reads(x, "<0 &0", "0(abc)", "RING@1");
        reads(x, "<0 &1", "0(bac)", "RING@1");
        reads(x, "<0 'z &1 &0", "0(zbacabc)", "RING@2 RING@3");
        OmitMarkup y = any();
        Notation.entity(y, 5, "&5 &5 &5 &5 &5 &5");
        reads(y, "&5", "", "RING@0 RING@0 RING@0 RING@0 RING@0 RING@0");
        OmitMarkup z = any();
        for (int i = 0; i < 59; i++) z.insert(0, OmitMarkup.END, 9);
        z.insert(59, OmitMarkup.ENTITY, 4);
        Notation.entity(z, 4, "&4");
        CHECK.same("RING at the last place", z.errorKind(59) * 100 + z.errorAt(59), 459);
    }

    private static void entityStandsWithinTwoOthers() {
        CHECK.about("Reading: ENTITY is left out, with the error RING, if it stands within two others");
        OmitMarkup x = any();
        for (int e = 0; e < 5; e++) Notation.entity(x, e, "'" + (char) ('a' + e) + " &" + (e + 1));
        Notation.entity(x, 5, "'f");
        reads(x, "<0 &5", "0(f)", "");
        reads(x, "<0 &4", "0(ef)", "");
        reads(x, "<0 &3", "0(de)", "RING@1");
        reads(x, "<0 &0", "0(ab)", "RING@1");
        reads(x, "<0 &3 &4 &5", "0(deeff)", "RING@1");
        // an empty one, too
        x.clear(5);
        reads(x, "<0 &3", "0(de)", "RING@1");
        // within two of its own sort it never stands; of one and the same other it is the second that is left out
        OmitMarkup y = any();
        Notation.entity(y, 0, "&1 &1 'x");
        Notation.entity(y, 1, "&2 'y");
        Notation.entity(y, 2, "'z");
        reads(y, "<0 &0", "0(yyx)", "RING@1 RING@1");
        reads(y, "<0 &1 &1", "0(zyzy)", "");
    }

    private static void entityOfNoTokensAndOfSix() {
        CHECK.about("Reading: ENTITY: an entity of no tokens, of one and of six");
        OmitMarkup x = any();
        reads(x, "<0 &0 >0", "0()", "");
        reads(x, "&0", "", "");
        Notation.entity(x, 0, "'a");
        reads(x, "<0 &0 >0", "0(a)", "");
        Notation.entity(x, 0, "<3 'b <2 >> 'c");
        reads(x, "<0 &0 >0", "0(a3(b2())c)", "");
        OmitMarkup y = any();
        for (int i = 0; i < 6; i++) y.entity(0, OmitMarkup.ENTITY, 1);
        for (int i = 0; i < 6; i++) y.entity(1, OmitMarkup.DATA, 'a' + i);
        Notation.write(y, "<0 &0");
        CHECK.same("six of six", Notation.tree(y), "0(abcdefabcdefabcdefabcdefabcdefabcdef)");
    }

    private static void entityIsGoneThroughThere() {
        CHECK.about("Reading: ENTITY: the tokens of the entity are gone through there, as a row");
        OmitMarkup x = any();
        Notation.entity(x, 0, ">3 'q <3");
        reads(x, "<0 <3 'a &0 'b >3", "0(3(a)q3(b))", "");
        CHECK.same("places are that of the ENTITY", Notation.places(x), "0 1 2 3 3 4");
        reads(x, "&0", "0+(q3())", "NOTHING@0 OPEN@1");
        Notation.entity(x, 1, "<>");
        reads(x, "<0 <3 >3 &1 'a >3", "0(3()3(a))", "");
    }

    // ---- MARK

    private static void markIncluded() {
        CHECK.about("Reading: MARK: the tokens behind it, up to its MARK_END in the same row, are gone through, if the switch is INCLUDE");
        OmitMarkup x = any();
        Notation.entity(x, 0, "'q");
        reads(x, "<0 [0 <3 'a &0 >9 | 'b ] >3 >0", "0(3(aq_b))", "NOTHING@5");
        reads(x, "<0 [0 'a [1 'b ] 'c ] 'd >0", "0(abcd)", "");
        reads(x, "[0 <0 ] 'a [3 >0 ]", "0(a)", "");
    }

    private static void markIgnored() {
        CHECK.about("Reading: MARK: left out, if IGNORE");
        OmitMarkup x = any();
        x.flip(1, IGNORE);
        Notation.entity(x, 0, "'q");
        reads(x, "<0 'z [1 <3 'a &0 >9 | ] 'y >0", "0(zy)", "");
        reads(x, "[1 <0 ] 'a [1 >0 ]", "0+(a)", "");
        reads(x, "[1 'a ]", "", "");
        CHECK.same("no state is changed", x.open(3) + x.things(), 0);
    }

    private static void markPlain() {
        CHECK.about("Reading: MARK: if PLAIN, each reads data, the letter of a DATA, a blank for a LINE, otherwise \"*\", as does the MARK_END of a MARK among them");
        OmitMarkup x = any();
        x.flip(2, PLAIN);
        Notation.entity(x, 0, "'q");
        String[] tokens = {"<3", ">0", "<>", ">>", "'~", "|", "&0", "[0 ]", "[1 ]"};
        String[] letters = {"*", "*", "*", "*", "~", "_", "*", "**", "**"};
        for (int i = 0; i < tokens.length; i++) {
            reads(x, "<0 [2 " + tokens[i] + " ] >0", "0(" + letters[i] + ")", "");
        }
        reads(x, "<0 [2 <3 | | >0 'a '_ ] 'b >0", "0(*__*a_b)", "");
        reads(x, "<0 [2 [2 <3 [0 ] ] ] >0", "0(*****)", "");
        reads(x, "[2 >9 ]", "0+(*)", "");
        // read as any data: with tags put in, and left out where it is not accepted
        OmitMarkup y = new OmitMarkup();
        Notation.model(y, 0, "3 D");
        Notation.model(y, 3, "D");
        y.omit(3, true, true);
        y.flip(0, PLAIN);
        reads(y, "<0 [0 <1 | 'c ] >0", "0(3+(*)_)", "NOT_HERE@4");
    }

    private static void markOfNothing() {
        CHECK.about("Reading: MARK with its MARK_END right behind it");
        for (int to = INCLUDE; to <= PLAIN; to++) {
            OmitMarkup x = any();
            x.flip(3, to);
            Notation.entity(x, 0, "[3 ]");
            reads(x, "[3 ]", "", "");
            reads(x, "<0 [3 ] 'a [3 ] [3 ] &0 'b >0", "0(ab)", "");
        }
    }

    private static void markAtTheFirstAndTheLastToken() {
        CHECK.about("Reading: MARK as the first token, MARK_END as the last; MARK as the last, MARK_END as the first");
        String[] trees = {"0+(ab)", "", "0+(ab)"};
        for (int to = INCLUDE; to <= PLAIN; to++) {
            OmitMarkup x = any();
            x.flip(0, to);
            reads(x, "[0 'a 'b ]", trees[to], "");
            reads(x, "'c [0", "0+(c)", "UNMARKED@2");
            reads(x, "] 'c", "0+(c)", "UNMARKED@0");
            reads(x, "[0", "", "UNMARKED@1");
            reads(x, "]", "", "UNMARKED@0");
            Notation.entity(x, 0, "[0 'a 'b ]");
            reads(x, "&0", trees[to], "");
        }
    }

    private static void markCountsForItsMarkEndAlone() {
        CHECK.about("Reading: within IGNORE and PLAIN a MARK among them has a MARK_END of its own, and counts for that alone");
        for (int inner = INCLUDE; inner <= PLAIN; inner++) {
            OmitMarkup x = any();
            x.flip(0, IGNORE);
            x.flip(1, inner);
            reads(x, "<0 [0 'a [1 'b ] 'c ] 'd", "0(d)", "");
            reads(x, "<0 [0 [1 ] [1 [1 ] ] 'c ] 'd ]", "0(d)", "UNMARKED@11");
            OmitMarkup y = any();
            y.flip(0, PLAIN);
            y.flip(1, inner);
            reads(y, "<0 [0 'a [1 'b ] 'c ] 'd", "0(a*b*cd)", "");
            reads(y, "<0 [0 [1 ] [1 [1 ] ] <3 ] <3 >3 ]", "0(*******3())", "UNMARKED@12");
        }
        // within INCLUDE the switch of the inner one counts
        OmitMarkup z = any();
        z.flip(1, IGNORE);
        z.flip(2, PLAIN);
        reads(z, "<0 [0 'a [1 'b ] 'c [2 <3 ] 'd ] 'e", "0(ac*de)", "");
    }

    private static void markEndsWithItsRow() {
        CHECK.about("Reading: MARK: up to its MARK_END in the same row");
        String[] trees = {"0(abc)", "0(ac)", "0(abc)"};
        for (int to = INCLUDE; to <= PLAIN; to++) {
            OmitMarkup x = any();
            x.flip(0, to);
            Notation.entity(x, 0, "'a [0 'b");
            Notation.entity(x, 1, "] 'c");
            Notation.entity(x, 2, "&0 'c");
            reads(x, "<0 &0 'c", trees[to], "UNMARKED@1");
            reads(x, "<0 &0 'c ]", trees[to], "UNMARKED@1 UNMARKED@3");
            reads(x, "<0 &0 &1", trees[to], "UNMARKED@1 UNMARKED@2");
            reads(x, "<0 &2", trees[to], "UNMARKED@1");
        }
        OmitMarkup x = any();
        Notation.entity(x, 1, "] 'c");
        reads(x, "<0 [0 'a &1 'b ]", "0(acb)", "UNMARKED@3");
    }

    private static void unmarkedForEachMark() {
        CHECK.about("Reading: if a row ends ahead of the MARK_END of a MARK, that is the error UNMARKED, for each such MARK, those within IGNORE and PLAIN, too");
        for (int to = INCLUDE; to <= PLAIN; to++) {
            OmitMarkup x = any();
            x.flip(0, to);
            Notation.write(x, "<0");
            String due = "";
            for (int marks = 1; marks <= 6; marks++) {
                x.insert(1, OmitMarkup.MARK, 0);
                due = (due + " UNMARKED").trim();
                CHECK.same(marks + " MARKs", Notation.errors(x).replaceAll("@[0-9]+", ""), due);
                CHECK.same("their place", x.errorAt(marks - 1), marks + 1);
            }
            x.insert(7, OmitMarkup.MARK_END, 0);
            CHECK.same("one of them has an end", x.errors(), 5);
            Notation.entity(x, 0, "[0 [0 [0 [0 [0 [0");
            Notation.rewrite(x, "<0 &0 'a");
            CHECK.same("six of an entity", Notation.errors(x), "UNMARKED@1 UNMARKED@1 UNMARKED@1 UNMARKED@1 UNMARKED@1 UNMARKED@1");
        }
    }

    private static void unmarkedAheadOfTheClosing() {
        CHECK.about("Reading: UNMARKED ahead of the closing of elements");
        OmitMarkup x = any();
        x.omit(0, true, false);
        Notation.entity(x, 0, "<3 [0");
        Notation.entity(x, 1, "[0 &0 >0");
        reads(x, "<0 <3 [0", "0(3())", "UNMARKED@3 OPEN@3 OPEN@3");
        reads(x, "<0 &0", "0(3())", "UNMARKED@1 OPEN@2 OPEN@2");
        reads(x, "<0 &1", "0(3())", "UNMARKED@1 OPEN@1 UNMARKED@1");
        reads(x, "<0 [0 &0 [0", "0(3())", "UNMARKED@2 UNMARKED@4 UNMARKED@4 OPEN@4 OPEN@4");
    }

    private static void markEndWithoutAMark() {
        CHECK.about("Reading: a MARK_END without a MARK in its row is left out, with the error UNMARKED");
        OmitMarkup x = any();
        Notation.entity(x, 0, "'q ] 'r ]");
        reads(x, "] <0 'a ] [0 'b ] ] >0 ]", "0(ab)", "UNMARKED@0 UNMARKED@3 UNMARKED@7 UNMARKED@9");
        reads(x, "<0 [0 &0 ] ]", "0(qr)", "UNMARKED@2 UNMARKED@2 UNMARKED@4");
    }

    private static void sixtyMarks() {
        CHECK.about("Reading: MARK and MARK_END at each of 60 places");
        for (int to = INCLUDE; to <= PLAIN; to++) {
            OmitMarkup x = new OmitMarkup();
            x.flip(3, to);
            for (int i = 0; i < 60; i++) x.insert(0, OmitMarkup.MARK, 3);
            // of PLAIN the other 59 read data, which is not accepted
            CHECK.same("60 MARKs", x.errors(), to == PLAIN ? 119 : 60);
            CHECK.same("the last error", x.errorKind(x.errors() - 1) * 100 + x.errorAt(x.errors() - 1), 560);
            for (int i = 0; i < 30; i++) {
                x.erase(59);
                x.insert(30, OmitMarkup.MARK_END, 0);
            }
            CHECK.same("30 MARKs and their ends", x.errors(), to == PLAIN ? 58 : 0);
            x.erase(0);
            CHECK.same("29 MARKs and 30 ends", x.errors(), to == PLAIN ? 57 : 1);
            CHECK.same("the last error", x.errorKind(x.errors() - 1) * 100 + x.errorAt(x.errors() - 1), 558);
        }
        OmitMarkup y = any();
        Notation.write(y, String.join(" ", Collections.nCopies(60, "]")));
        CHECK.same("60 ends", y.errors(), 60);
        for (int i = 0; i < 60; i++) CHECK.same("error " + i, y.errorKind(i) * 100 + y.errorAt(i), 500 + i);
    }

    /** 60 tokens that stand for 36 each: nothing bounds how many errors they make. */
    private static void errorsOfAllTokens() {
        CHECK.about("Reading: errors of all tokens that a text can stand for");
        OmitMarkup x = new OmitMarkup();
        x.flip(0, PLAIN);
        for (int i = 0; i < 6; i++) x.entity(0, OmitMarkup.ENTITY, 1);
        for (int i = 0; i < 6; i++) x.entity(1, OmitMarkup.MARK, 0);
        for (int i = 0; i < 60; i++) x.insert(0, OmitMarkup.ENTITY, 0);
        CHECK.same("5 letters and 6 MARKs of each row", x.errors(), 60 * 6 * 11);
        CHECK.same("the first", x.errorKind(0) * 100 + x.errorAt(0), 0);
        CHECK.same("the last", x.errorKind(3959) * 100 + x.errorAt(3959), 559);
        CHECK.refused("one more", Scenes.IOOBE, () -> x.errorKind(3960));
        for (int i = 0; i < 6; i++) CHECK.same("errors of the last row", x.errorKind(3954 + i), OmitMarkup.UNMARKED);
    }
}
