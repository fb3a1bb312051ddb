import java.util.ArrayDeque;
import java.util.ArrayList;
import java.util.Arrays;
import java.util.Deque;
import java.util.List;

/**
 * The document once more, as literally as can be and without regard to cost, to compare the class with: marked parts
 * are found by matching brackets, the normal form is read like any text, ways are tried one by one, and models are
 * walked slot by slot. It shares no code with the class.
 */
final class Oracle {
    static final int IOOBE = 1, IAE = 2, ISE = 3;

    /** What a call answered: a number, or which exception it threw. */
    static final class Refusal extends RuntimeException {
        private static final long serialVersionUID = 1L;
        final int which;

        Refusal(int which) {
            super("refusal " + which, null, false, false);
            this.which = which;
        }
    }

    record Token(int sort, int value) { }

    record Slot(int set, int occurrence) { }

    record Thing(int kind, int parent, char letter, int place, boolean putIn) { }

    record Fault(int kind, int place) { }

    /** A model that is read as far as a slot, of which some or none were taken. */
    record Reach(int slot, boolean some) { }

    static final class Open {
        final int element;
        final int thing;
        Reach reach = new Reach(0, false);

        Open(int element, int thing) {
            this.element = element;
            this.thing = thing;
        }
    }

    final List<List<Slot>> models = new ArrayList<>();
    final int[] includes = new int[10], excludes = new int[10];
    final boolean[] startOmit = new boolean[10], endOmit = new boolean[10];
    final List<List<Token>> entities = new ArrayList<>();
    final int[] switches = new int[4];
    List<Token> text = new ArrayList<>();
    int anew = 0;
    Reading reading;

    Oracle() {
        for (int i = 0; i < 10; i++) models.add(new ArrayList<>());
        for (int i = 0; i < 6; i++) entities.add(new ArrayList<>());
        reading = new Reading(text);
    }

    // ---- models

    boolean canRepeat(Slot s) {
        return s.occurrence == 2 || s.occurrence == 3;
    }

    boolean hasEnough(Slot s, boolean some) {
        return s.occurrence == 1 || s.occurrence == 2 || some;
    }

    /** All slots by which a model can go on with a thing. */
    List<Integer> slotsFor(List<Slot> model, Reach from, int thing) {
        List<Integer> found = new ArrayList<>();
        if (from.slot >= model.size()) return found;
        Slot s = model.get(from.slot);
        if ((s.set & 1 << thing) != 0 && (canRepeat(s) || !from.some)) found.add(from.slot);
        if (hasEnough(s, from.some)) found.addAll(slotsFor(model, new Reach(from.slot + 1, false), thing));
        return found;
    }

    boolean canEnd(List<Slot> model, Reach at) {
        for (int i = at.slot; i < model.size(); i++) {
            if (!hasEnough(model.get(i), i == at.slot && at.some)) return false;
        }
        return true;
    }

    int goesOnWith(List<Slot> model, Reach at) {
        int set = 0;
        for (int thing = 0; thing <= 10; thing++) {
            if (!slotsFor(model, at, thing).isEmpty()) set |= 1 << thing;
        }
        return set;
    }

    // ---- reading

    final class Reading {
        final List<Thing> things = new ArrayList<>();
        final List<Fault> faults = new ArrayList<>();
        final List<Open> open = new ArrayList<>();
        final List<String> states = new ArrayList<>();
        final List<Boolean> isMarkOpen = new ArrayList<>();
        final List<Integer> opens = new ArrayList<>(), currents = new ArrayList<>(), nexts = new ArrayList<>();
        int last = -1;
        int endsPutIn = 0;
        int place = 0;

        Reading(List<Token> row) {
            note(List.of());
            go(row, new ArrayList<>());
            if (!open.isEmpty()) {
                closeTo(open.get(0), true);
            }
        }

        void note(List<Integer> marks) {
            StringBuilder b = new StringBuilder();
            for (Open o : open) b.append(o.element).append(':').append(o.reach).append(' ');
            b.append("last ").append(last).append(" marks ").append(marks);
            states.add(b.toString());
            isMarkOpen.add(!marks.isEmpty());
            opens.add(open.size());
            currents.add(open.isEmpty() ? -1 : current().element);
            nexts.add(open.isEmpty() ? 0 : goesOnWith(models.get(current().element), current().reach));
        }

        Open current() {
            return open.get(open.size() - 1);
        }

        void fault(int kind) {
            faults.add(new Fault(kind, place));
        }

        void go(List<Token> row, List<Integer> within) {
            boolean isText = within.isEmpty();
            Deque<Integer> marks = new ArrayDeque<>();
            for (int i = 0; i < row.size(); i++) {
                if (isText) place = i;
                Token t = row.get(i);
                boolean closes = t.sort == 8 && !marks.isEmpty();
                if (closes) marks.removeLast();
                // what surrounds the token, less the MARK that it ends
                int how = 0;
                for (int m : marks) {
                    if (how == 0) how = switches[m];
                }
                if (how == 2) {
                    read(10, t.sort == 4 ? (char) t.value : t.sort == 5 ? ' ' : '*');
                } else if (how == 0 && !closes && t.sort != 7) {
                    token(row, i, within);
                }
                if (t.sort == 7) marks.addLast(t.value);
                if (isText) {
                    List<Integer> what = new ArrayList<>();
                    for (int m : marks) what.add(switches[m]);
                    note(what);
                }
            }
            if (isText) place = row.size();
            for (int i = 0; i < marks.size(); i++) fault(5);
        }

        void token(List<Token> row, int i, List<Integer> within) {
            Token t = row.get(i);
            if (t.sort == 0) read(t.value, '<');
            if (t.sort == 1) {
                Open found = null;
                for (Open o : open) if (o.element == t.value) found = o;
                if (found == null) fault(1); else closeTo(found, false);
            }
            if (t.sort == 2) {
                if (last < 0) fault(1); else read(last, '<');
            }
            if (t.sort == 3) {
                if (open.isEmpty()) fault(1); else closeTo(current(), false);
            }
            if (t.sort == 4) read(10, (char) t.value);
            if (t.sort == 5) {
                boolean behindStart = i > 0 && (row.get(i - 1).sort == 0 || row.get(i - 1).sort == 2);
                boolean aheadOfEnd = i + 1 < row.size() && (row.get(i + 1).sort == 1 || row.get(i + 1).sort == 3);
                if (!behindStart && !aheadOfEnd) read(10, ' ');
            }
            if (t.sort == 6) {
                int others = 0;
                for (int e : within) if (e != t.value) others++;
                if (within.contains(t.value) || others >= 2) {
                    fault(4);
                } else {
                    List<Integer> deeper = new ArrayList<>(within);
                    deeper.add(t.value);
                    go(entities.get(t.value), deeper);
                }
            }
            if (t.sort == 8) fault(5);
        }

        boolean isExcluded(int thing) {
            for (Open o : open) if (thing < 10 && (excludes[o.element] & 1 << thing) != 0) return true;
            return false;
        }

        boolean isIncluded(int thing) {
            for (Open o : open) if (thing < 10 && (includes[o.element] & 1 << thing) != 0) return true;
            return false;
        }

        void put(int thing, char letter, boolean putIn) {
            things.add(new Thing(thing, open.isEmpty() ? -1 : current().thing, letter, place, putIn));
            if (thing < 10) {
                last = thing;
                if (!models.get(thing).isEmpty()) open.add(new Open(thing, things.size() - 1));
            }
        }

        void moveOn(int thing) {
            Open c = current();
            List<Integer> slots = slotsFor(models.get(c.element), c.reach, thing);
            if (!slots.isEmpty()) c.reach = new Reach(slots.get(0), true);
        }

        boolean accepts(int thing) {
            if (last < 0) return thing == 0;
            if (open.isEmpty()) return false;
            if (isExcluded(thing)) return false;
            return (goesOnWith(models.get(current().element), current().reach) & 1 << thing) != 0 || isIncluded(thing);
        }

        /** The element that rule 4 puts in; -1 if it does not apply. */
        int missing() {
            if (open.isEmpty() || open.size() >= 20 || things.size() >= 300) return -1;
            List<Slot> model = models.get(current().element);
            if (canEnd(model, current().reach)) return -1;
            int set = goesOnWith(model, current().reach);
            for (int e = 0; e < 10; e++) {
                if (set == 1 << e && !models.get(e).isEmpty() && !isExcluded(e) && startOmit[e]) return e;
            }
            return -1;
        }

        void read(int thing, char letter) {
            int opened = 0;
            while (true) {
                if (things.size() == 300 || thing < 10 && open.size() == 20) {
                    fault(6);
                    return;
                }
                if (accepts(thing)) {
                    if (!open.isEmpty()) moveOn(thing);
                    put(thing, letter, false);
                    return;
                }
                if (last < 0 && startOmit[0]) {
                    put(0, '<', true);
                    continue;
                }
                if (opened < 8 && missing() >= 0) {
                    int element = missing();
                    moveOn(element);
                    put(element, '<', true);
                    opened++;
                    continue;
                }
                if (open.size() > 1 && canEnd(models.get(current().element), current().reach) && endOmit[current().element]) {
                    open.remove(open.size() - 1);
                    endsPutIn++;
                    continue;
                }
                fault(0);
                return;
            }
        }

        void closeTo(Open target, boolean isPutIn) {
            while (true) {
                Open c = current();
                if (!canEnd(models.get(c.element), c.reach)) fault(2);
                if (c != target || isPutIn) {
                    endsPutIn++;
                    if (!endOmit[c.element]) fault(3);
                }
                open.remove(open.size() - 1);
                if (c == target) return;
            }
        }

        boolean isClean() {
            for (Thing t : things) if (t.putIn) return false;
            return faults.isEmpty() && endsPutIn == 0;
        }
    }

    List<Token> normalForm() {
        List<Token> row = new ArrayList<>();
        if (!reading.things.isEmpty()) write(0, row);
        return row;
    }

    private void write(int thing, List<Token> row) {
        Thing t = reading.things.get(thing);
        if (t.kind == 10) {
            row.add(new Token(4, t.letter));
            return;
        }
        row.add(new Token(0, t.kind));
        for (int i = 0; i < reading.things.size(); i++) {
            if (reading.things.get(i).parent == thing) write(i, row);
        }
        if (!models.get(t.kind).isEmpty()) row.add(new Token(1, t.kind));
    }

    // ---- the calls

    private static void within(int index, int count) {
        if (index < 0 || index >= count) throw new Refusal(IOOBE);
    }

    private static void demand(boolean holds, int refusal) {
        if (!holds) throw new Refusal(refusal);
    }

    private static void tokenIsFit(int sort, int value) {
        demand(sort >= 0 && sort <= 8, IAE);
        if (sort == 0 || sort == 1) demand(value >= 0 && value <= 9, IAE);
        if (sort == 4) demand(value >= 32 && value <= 126, IAE);
        if (sort == 6) demand(value >= 0 && value <= 5, IAE);
        if (sort == 7) demand(value >= 0 && value <= 3, IAE);
    }

    private void all() {
        reading = new Reading(text);
        anew = text.size();
    }

    int slot(int element, int set, boolean hasData, int occurrence) {
        within(element, 10);
        demand(set >= 0 && set <= 1023 && occurrence >= 0 && occurrence <= 3 && (set > 0 || hasData), IAE);
        demand(models.get(element).size() < 6, ISE);
        List<Slot> model = new ArrayList<>(models.get(element));
        model.add(new Slot(set + (hasData ? 1024 : 0), occurrence));
        for (int thing = 0; thing <= 10; thing++) {
            for (int i = 0; i < model.size(); i++) {
                for (int some = 0; some < 2; some++) {
                    if (slotsFor(model, new Reach(i, some == 1), thing).size() > 1) return thing;
                }
            }
        }
        models.set(element, model);
        all();
        return -1;
    }

    int empty(int element) {
        within(element, 10);
        int had = models.get(element).size();
        models.set(element, new ArrayList<>());
        all();
        return had;
    }

    void except(int element, int in, int ex) {
        within(element, 10);
        demand(in >= 0 && in <= 1023 && ex >= 0 && ex <= 1023, IAE);
        includes[element] = in;
        excludes[element] = ex;
        all();
    }

    void omit(int element, boolean start, boolean end) {
        within(element, 10);
        startOmit[element] = start;
        endOmit[element] = end;
        all();
    }

    int entity(int entity, int sort, int value) {
        within(entity, 6);
        tokenIsFit(sort, value);
        demand(entities.get(entity).size() < 6, ISE);
        entities.get(entity).add(new Token(sort, value));
        all();
        return entities.get(entity).size();
    }

    int clear(int entity) {
        within(entity, 6);
        int had = entities.get(entity).size();
        entities.get(entity).clear();
        all();
        return had;
    }

    int flip(int number, int to) {
        within(number, 4);
        demand(to >= 0 && to <= 2, IAE);
        int was = switches[number];
        switches[number] = to;
        all();
        return was;
    }

    private boolean isLine(int place) {
        return place >= 0 && place < text.size() && text.get(place).sort == 5;
    }

    int insert(int place, int sort, int value) {
        within(place, text.size() + 1);
        tokenIsFit(sort, value);
        demand(text.size() < 60, ISE);
        Reading old = reading;
        int oldSize = text.size();
        int start = isLine(place - 1) ? place - 1 : place;
        int least = isLine(place) ? place + 2 : place + 1;
        text.add(place, new Token(sort, value));
        reading = new Reading(text);
        anew = firstAlike(old, oldSize, least) - start;
        return text.size();
    }

    int erase(int place) {
        within(place, text.size());
        Reading old = reading;
        int oldSize = text.size();
        int start = isLine(place - 1) ? place - 1 : place;
        int least = isLine(place + 1) ? place + 1 : place;
        text.remove(place);
        reading = new Reading(text);
        anew = firstAlike(old, oldSize, least) - start;
        return text.size();
    }

    /** The first place at which the state is what it was with as many tokens behind, and no MARK is open; or the end. */
    private int firstAlike(Reading old, int oldSize, int least) {
        for (int q = least; q <= text.size(); q++) {
            int behind = text.size() - q;
            boolean alike = reading.states.get(q).equals(old.states.get(oldSize - behind));
            if (alike && !reading.isMarkOpen.get(q)) return q;
        }
        return text.size();
    }

    int normalize() {
        List<Token> row = normalForm();
        demand(row.size() <= 60, ISE);
        text = row;
        all();
        return text.size();
    }

    boolean isSame() {
        Reading again = new Reading(normalForm());
        if (!again.isClean() || again.things.size() != reading.things.size()) return false;
        for (int i = 0; i < again.things.size(); i++) {
            Thing a = again.things.get(i);
            Thing b = reading.things.get(i);
            if (a.kind != b.kind || a.parent != b.parent || a.letter != b.letter) return false;
        }
        return true;
    }

    int ways() {
        demand(text.size() <= 6, ISE);
        for (Token t : text) demand(t.sort == 0 || t.sort == 1 || t.sort == 4, ISE);
        List<Token> tags = new ArrayList<>();
        for (int e = 0; e < 10; e++) {
            if (startOmit[e]) tags.add(new Token(0, e));
            if (endOmit[e]) tags.add(new Token(1, e));
        }
        int count = new Reading(text).isClean() ? 1 : 0;
        for (int p = 0; p <= text.size(); p++) {
            for (Token a : tags) {
                List<Token> one = new ArrayList<>(text);
                one.add(p, a);
                if (new Reading(one).isClean()) count++;
                // the second stands behind the first in the row
                for (int q = p + 1; q <= one.size(); q++) {
                    for (Token b : tags) {
                        List<Token> two = new ArrayList<>(one);
                        two.add(q, b);
                        if (new Reading(two).isClean()) count++;
                    }
                }
            }
        }
        return Math.min(count, 1000);
    }

    /** Everything that can be asked but isSame() and ways(), as one text. */
    String told() {
        StringBuilder b = new StringBuilder();
        b.append(text.size()).append(" anew ").append(anew).append(" states");
        for (int p = 0; p <= text.size(); p++) {
            b.append(' ').append(reading.opens.get(p)).append('/').append(reading.currents.get(p)).append('/').append(reading.nexts.get(p));
        }
        b.append(" things ").append(reading.things.size());
        for (Thing t : reading.things) {
            b.append(' ').append(t.kind).append('^').append(t.parent).append(t.letter).append(t.place).append(t.putIn ? "+" : "");
        }
        b.append(" ends ").append(reading.endsPutIn).append(" errors ").append(reading.faults.size());
        for (Fault f : reading.faults) b.append(' ').append(f.kind).append('@').append(f.place);
        List<Token> row = normalForm();
        b.append(" normal ").append(row.size());
        for (Token t : row) b.append(' ').append(t.sort).append('.').append(t.value);
        return b.toString();
    }

    /** The same text, as the class answers. */
    static String told(OmitMarkup x) {
        StringBuilder b = new StringBuilder();
        b.append(x.length()).append(" anew ").append(x.anew()).append(" states");
        for (int p = 0; p <= x.length(); p++) {
            b.append(' ').append(x.open(p)).append('/').append(x.current(p)).append('/').append(x.next(p));
        }
        b.append(" things ").append(x.things());
        for (int i = 0; i < x.things(); i++) {
            b.append(' ').append(x.kind(i)).append('^').append(x.parent(i)).append(x.letter(i)).append(x.placeOf(i)).append(x.isPutIn(i) ? "+" : "");
        }
        b.append(" ends ").append(x.endsPutIn()).append(" errors ").append(x.errors());
        for (int i = 0; i < x.errors(); i++) b.append(' ').append(x.errorKind(i)).append('@').append(x.errorAt(i));
        b.append(" normal ").append(x.normal());
        for (int i = 0; i < x.normal(); i++) b.append(' ').append(x.normalSort(i)).append('.').append(x.normalValue(i));
        return b.toString();
    }

    @Override
    public String toString() {
        return "models " + models + " includes " + Arrays.toString(includes) + " excludes " + Arrays.toString(excludes)
            + " start " + Arrays.toString(startOmit) + " end " + Arrays.toString(endOmit) + " entities " + entities
            + " switches " + Arrays.toString(switches) + " text " + text;
    }
}
