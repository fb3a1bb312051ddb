/**
 * Runs of calls by a fixed rule of chance, each answer and all that can be asked behind it compared with the Oracle.
 * The grammars and texts are of several characters, so that the rare rules come about too; the last lines make sure
 * that they did.
 */
final class OracleTest {
    private static final Check CHECK = new Check("OracleTest");
    private static long seed;
    private static final int[] ERRORS_SEEN = new int[7];
    private static final int[] SEEN = new int[8];
    private static final String[] SEEN_NAMES = {
        "two or more start tags put in by one token", "end tags put in ahead of the end", "an edit that reads nothing anew",
        "an edit that stops ahead of the end", "a tree of 300 things", "20 open elements", "a refused slot", "more than one way"
    };

    private OracleTest() { }

    private static int below(int bound) {
        seed = seed * 6364136223846793005L + 1442695040888963407L;
        return (int) ((seed >>> 33) % bound);
    }

    private static boolean oneIn(int n) {
        return below(n) == 0;
    }

    /** A set of elements, of the first few mostly, or one that is out of range. */
    private static int anySet(int few) {
        if (oneIn(60)) return oneIn(2) ? -1 : 1024 + below(9);
        if (oneIn(4)) return below(1024);
        int set = 0;
        for (int i = below(3); i >= 0; i--) set |= 1 << below(few);
        return set;
    }

    private static int anyIndex(int count) {
        return oneIn(80) ? (oneIn(2) ? -1 : count) : below(count);
    }

    public static void main(String[] args) {
        int runs = args.length > 0 ? Integer.parseInt(args[0]) : 600;
        for (int run = 0; run < runs && CHECK.wrong() < 5; run++) {
            seed = run * 7919L + 17;
            for (int i = 0; i < 8; i++) below(2);
            oneRun(run);
        }
        if (CHECK.wrong() == 0 && runs >= 600) {
            for (int kind = 0; kind < 7; kind++) CHECK.same("error " + kind + " came about", ERRORS_SEEN[kind] > 20, true);
            for (int i = 0; i < SEEN.length; i++) CHECK.same(SEEN_NAMES[i], SEEN[i] > 20, true);
        }
        CHECK.end();
    }

    private static void oneRun(int run) {
        OmitMarkup x = new OmitMarkup();
        Oracle o = new Oracle();
        int few = 2 + below(5);
        int character = below(5);
        StringBuilder log = new StringBuilder("run " + run);
        int steps = 40 + below(60);
        int startLength = oneIn(5) ? 50 : 0;
        prepare(x, o, few, character, log);
        for (int step = 0; step < steps && CHECK.wrong() < 5; step++) {
            String call = oneCall(x, o, few, character, step < startLength);
            log.append("; ").append(call);
            CHECK.same(log + "\n" + o + "\n", Oracle.told(x), o.told());
            if (oneIn(3)) CHECK.same(log + "; isSame()", x.isSame(), o.isSame());
            if (oneIn(o.text.size() <= 6 ? 8 : 40)) {
                int due = answer(o::ways);
                CHECK.same(log + "\n" + o + "\nways()", answer(x::ways), due);
                if (due > 1 && due < 1000) SEEN[7]++;
            }
            CHECK.same(log + " told again", Oracle.told(x), o.told());
            note(o);
        }
    }

    private static void note(Oracle o) {
        for (Oracle.Fault f : o.reading.faults) ERRORS_SEEN[f.kind()]++;
        int[] putIn = new int[61];
        for (Oracle.Thing t : o.reading.things) {
            if (t.putIn() && ++putIn[t.place()] == 3) SEEN[0]++;
        }
        if (o.reading.endsPutIn > o.reading.opens.get(o.text.size())) SEEN[1]++;
        if (o.reading.things.size() == 300) SEEN[4]++;
        if (o.reading.opens.contains(20)) SEEN[5]++;
    }

    private interface Call {
        int ask();
    }

    /** What a call answered; a refusal counts from 1,000,001 on. */
    private static int answer(Call call) {
        try {
            return call.ask();
        } catch (Oracle.Refusal e) {
            return 1000000 + e.which;
        } catch (IndexOutOfBoundsException e) {
            return e.getClass() == IndexOutOfBoundsException.class ? 1000001 : 2000001;
        } catch (IllegalArgumentException e) {
            return e.getClass() == IllegalArgumentException.class ? 1000002 : 2000002;
        } catch (IllegalStateException e) {
            return 1000003;
        }
    }

    private static void both(String call, Call mine, Call due) {
        CHECK.same(call, answer(mine), answer(due));
    }

    private static void prepare(OmitMarkup x, Oracle o, int few, int character, StringBuilder log) {
        int slots = 2 + below(3 * few);
        if (character == 3) {
            both("slot", () -> x.slot(0, 6, true, 2), () -> o.slot(0, 6, true, 2));
            log.append("; slot(0, 6, true, 2)");
        }
        for (int i = 0; i < slots; i++) {
            log.append("; ").append(slotCall(x, o, few, character));
        }
        for (int e = 0; e < few; e++) {
            boolean start = !oneIn(3);
            boolean end = !oneIn(3);
            int element = e;
            both("omit", () -> { x.omit(element, start, end); return 0; }, () -> { o.omit(element, start, end); return 0; });
            log.append("; omit(" + e + ", " + start + ", " + end + ")");
        }
        if (character == 3) {
            // entities that multiply: 36 things by one token
            for (int i = 0; i < 6; i++) {
                int sort = oneIn(6) ? 0 : 6;
                both("entity", () -> x.entity(0, sort, 1), () -> o.entity(0, sort, 1));
                int value = 'a' + i;
                both("entity", () -> x.entity(1, 4, value), () -> o.entity(1, 4, value));
            }
            log.append("; entities that multiply");
            for (int i = 0; i < 10; i++) {
                int sort = i == 0 ? 0 : 6;
                both("insert", () -> x.insert(o.text.size(), sort, 0), () -> o.insert(o.text.size(), sort, 0));
            }
        }
    }

    private static String slotCall(OmitMarkup x, Oracle o, int few, int character) {
        int element = anyIndex(few);
        int set = anySet(few);
        boolean hasData = oneIn(3);
        int occurrence = oneIn(60) ? (oneIn(2) ? -1 : 4) : below(4);
        if (character == 1 && !oneIn(4)) {
            // chains of elements that must come, for tags that are put in
            set = element < 9 ? 1 << element + 1 : 1;
            hasData = false;
            occurrence = 0;
        }
        if (character == 2 && oneIn(2)) {
            // elements within themselves, for deep trees
            set |= 1 << Math.max(element, 0);
            occurrence = 2;
        }
        int e = element, s = set, c = occurrence;
        boolean d = hasData;
        String call = "slot(" + e + ", " + s + ", " + d + ", " + c + ")";
        both(call, () -> x.slot(e, s, d, c), () -> {
            int answer = o.slot(e, s, d, c);
            if (answer >= 0) SEEN[6]++;
            return answer;
        });
        return call;
    }

    private static int anyValue(int sort, int few) {
        if (oneIn(80)) return oneIn(2) ? -1 : 127;
        switch (sort) {
            case 0:
            case 1:
                return oneIn(20) ? below(10) : below(few);
            case 4:
                return oneIn(30) ? 32 + below(95) : 'a' + below(3);
            case 6:
                return below(6);
            case 7:
                return below(4);
            default:
                return below(200) - 100;
        }
    }

    private static int anySort(int character) {
        if (oneIn(80)) return oneIn(2) ? -1 : 9;
        if (character == 2 && !oneIn(3)) return 0;
        if (character == 3 && !oneIn(3)) return 6;
        if (character == 4 && !oneIn(4)) return new int[] {0, 1, 4}[below(3)];
        return oneIn(3) ? below(9) : new int[] {0, 0, 1, 4, 4, 5, 5}[below(7)];
    }

    private static String oneCall(OmitMarkup x, Oracle o, int few, int character, boolean grow) {
        int choice = grow ? 0 : below(40);
        if (choice < 16) {
            int place = grow || oneIn(3) ? o.text.size() : anyIndex(o.text.size() + 1);
            int sort = anySort(character);
            int value = anyValue(sort, few);
            String call = "insert(" + place + ", " + sort + ", " + value + ")";
            both(call, () -> x.insert(place, sort, value), () -> o.insert(place, sort, value));
            noteEdit(o);
            return call;
        }
        if (choice < 26) {
            int place = o.text.isEmpty() ? 0 : anyIndex(o.text.size());
            String call = "erase(" + place + ")";
            both(call, () -> x.erase(place), () -> o.erase(place));
            noteEdit(o);
            return call;
        }
        if (choice < 28) {
            return slotCall(x, o, few, character);
        }
        int index = anyIndex(few);
        switch (choice) {
            case 28:
                if (!oneIn(3)) return "";
                both("empty", () -> x.empty(index), () -> o.empty(index));
                return "empty(" + index + ")";
            case 29:
            case 30:
                int in = oneIn(2) ? 0 : anySet(few);
                int ex = oneIn(2) ? 0 : anySet(few);
                both("except", () -> { x.except(index, in, ex); return 0; }, () -> { o.except(index, in, ex); return 0; });
                return "except(" + index + ", " + in + ", " + ex + ")";
            case 31:
            case 32:
                boolean start = oneIn(2);
                boolean end = oneIn(2);
                both("omit", () -> { x.omit(index, start, end); return 0; }, () -> { o.omit(index, start, end); return 0; });
                return "omit(" + index + ", " + start + ", " + end + ")";
            case 33:
            case 34:
            case 35:
                int entity = anyIndex(6);
                int sort = anySort(0);
                int value = anyValue(sort, few);
                String call = "entity(" + entity + ", " + sort + ", " + value + ")";
                both(call, () -> x.entity(entity, sort, value), () -> o.entity(entity, sort, value));
                return call;
            case 36:
                int cleared = anyIndex(6);
                both("clear", () -> x.clear(cleared), () -> o.clear(cleared));
                return "clear(" + cleared + ")";
            case 37:
            case 38:
                int number = anyIndex(4);
                int to = oneIn(30) ? (oneIn(2) ? -1 : 3) : below(3);
                both("flip", () -> x.flip(number, to), () -> o.flip(number, to));
                return "flip(" + number + ", " + to + ")";
            default:
                if (!oneIn(3)) return "";
                both("normalize", x::normalize, o::normalize);
                return "normalize()";
        }
    }

    private static void noteEdit(Oracle o) {
        if (o.anew == 0) SEEN[2]++;
        if (o.anew > 0 && o.anew < o.text.size() / 2) SEEN[3]++;
    }
}
