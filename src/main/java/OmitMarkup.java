/**
 * A reader of marked texts, whose grammar may leave tags out.
 *
 * <p>Each change reads the whole text again: the tree, the errors and the states of reading are then those of the
 * whole text by themselves, and how many tokens count as read anew is found by comparing the states of before and
 * after. All rows are made in constructors and used again, so that no call makes an object.
 */
public final class OmitMarkup {
    public static final int NONE = -1;
    public static final int ONE = 0, OPTIONAL = 1, STAR = 2, PLUS = 3;
    public static final int START = 0, END = 1, EMPTY_START = 2, EMPTY_END = 3, DATA = 4, LINE = 5, ENTITY = 6, MARK = 7, MARK_END = 8;
    public static final int INCLUDE = 0, IGNORE = 1, PLAIN = 2;
    public static final int NOT_HERE = 0, NOTHING = 1, SHORT = 2, OPEN = 3, RING = 4, UNMARKED = 5, DEEP = 6;

    private static final int ELEMENTS = 10;
    private static final int ROOT = 0;
    /** Data as a thing, which is told behind the elements. */
    private static final int DATA_THING = 10;
    private static final int SETS = 1 << ELEMENTS;
    private static final int SLOTS = 6;
    private static final int REACHES = 2 * SLOTS;
    private static final int ENTITIES = 6;
    private static final int SWITCHES = 4;
    private static final int TEXT_TOKENS = 60;
    private static final int ENTITY_TOKENS = 6;
    /** An ENTITY is left out within so many entities. */
    private static final int ENTITY_LEVELS = 2;
    private static final int MOST_OPEN = 20;
    private static final int MOST_THINGS = 300;
    /** So many start tags are put in for one thing, beside that of the root. */
    private static final int MOST_PUT_IN = 8;
    /** One thing closes at most what is open and what is put in for it; this is far above both. */
    private static final int MOST_ROUNDS = 100;
    /** A START and an END for each thing, at the most. */
    private static final int NORMAL_TOKENS = 2 * MOST_THINGS;
    /**
     * A text token stands for 36 at the most, each of which makes two errors at the most (a MARK within PLAIN, which is
     * not accepted and has no MARK_END), beside the two of each element that is closed.
     */
    private static final int MOST_ERRORS = 2 * TEXT_TOKENS * ENTITY_TOKENS * ENTITY_TOKENS + 2 * MOST_THINGS;
    private static final int WAYS_TEXT_TOKENS = 6;
    private static final int WAYS_PUT_IN = 2;
    private static final int MOST_WAYS = 1000;

    private final Grammar grammar = new Grammar();
    private final Row text = new Row(TEXT_TOKENS);
    private final Row[] entities = new Row[ENTITIES];
    private final int[] switches = new int[SWITCHES];
    private final Reader reader;
    private final WayCounter wayCounter;

    public OmitMarkup() {
        for (int i = 0; i < ENTITIES; i++) {
            entities[i] = new Row(ENTITY_TOKENS);
        }
        reader = new Reader(grammar, text, entities, switches);
        wayCounter = new WayCounter(grammar, text);
    }

    // ---- the grammar

    public int slot(int element, int set, boolean hasData, int occurrence) throws IndexOutOfBoundsException, IllegalArgumentException, IllegalStateException {
        checkIndex(element, ELEMENTS);
        boolean isEmptySlot = set == 0 && !hasData;
        if (set < 0 || set >= SETS || occurrence < ONE || occurrence > PLUS || isEmptySlot) {
            throw new IllegalArgumentException("no such slot");
        }
        Model model = grammar.models[element];
        if (model.slots >= SLOTS) {
            throw new IllegalStateException("the model has all its slots");
        }
        model.addSlot(hasData ? set | 1 << DATA_THING : set, occurrence);
        if (model.clashing != 0) {
            int lowest = lowestOf(model.clashing);
            model.dropLastSlot();
            return lowest;
        }
        reader.readText();
        return NONE;
    }

    public int empty(int element) throws IndexOutOfBoundsException {
        checkIndex(element, ELEMENTS);
        int had = grammar.models[element].slots;
        grammar.models[element].dropSlots();
        reader.readText();
        return had;
    }

    public void except(int element, int includes, int excludes) throws IndexOutOfBoundsException, IllegalArgumentException {
        checkIndex(element, ELEMENTS);
        if (includes < 0 || includes >= SETS || excludes < 0 || excludes >= SETS) {
            throw new IllegalArgumentException("no such set of elements");
        }
        grammar.includes[element] = includes;
        grammar.excludes[element] = excludes;
        reader.readText();
    }

    public void omit(int element, boolean start, boolean end) throws IndexOutOfBoundsException {
        checkIndex(element, ELEMENTS);
        grammar.startMayLack[element] = start;
        grammar.endMayLack[element] = end;
        reader.readText();
    }

    // ---- entities, switches

    public int entity(int entity, int sort, int value) throws IndexOutOfBoundsException, IllegalArgumentException, IllegalStateException {
        checkIndex(entity, ENTITIES);
        checkToken(sort, value);
        Row row = entities[entity];
        if (row.count >= ENTITY_TOKENS) {
            throw new IllegalStateException("the entity has all its tokens");
        }
        row.putToken(row.count, sort, value);
        reader.readText();
        return row.count;
    }

    public int clear(int entity) throws IndexOutOfBoundsException {
        checkIndex(entity, ENTITIES);
        int had = entities[entity].count;
        entities[entity].count = 0;
        reader.readText();
        return had;
    }

    public int flip(int number, int to) throws IndexOutOfBoundsException, IllegalArgumentException {
        checkIndex(number, SWITCHES);
        if (to < INCLUDE || to > PLAIN) {
            throw new IllegalArgumentException("a switch cannot be that");
        }
        int was = switches[number];
        switches[number] = to;
        reader.readText();
        return was;
    }

    // ---- the text

    public int insert(int place, int sort, int value) throws IndexOutOfBoundsException, IllegalArgumentException, IllegalStateException {
        checkIndex(place, text.count + 1);
        checkToken(sort, value);
        if (text.count >= TEXT_TOKENS) {
            throw new IllegalStateException("the text has all its tokens");
        }
        text.putToken(place, sort, value);
        reader.readText();
        reader.countReadAnew(place, place + 1, -1);
        return text.count;
    }

    public int erase(int place) throws IndexOutOfBoundsException {
        checkIndex(place, text.count);
        text.dropToken(place);
        reader.readText();
        reader.countReadAnew(place, place, 1);
        return text.count;
    }

    public int normalize() throws IllegalStateException {
        if (reader.normalForm.count > TEXT_TOKENS) {
            throw new IllegalStateException("the normal form is too long for a text");
        }
        text.copyFrom(reader.normalForm);
        reader.readText();
        return text.count;
    }

    public int length() {
        return text.count;
    }

    public int anew() {
        return reader.readAnew;
    }

    public int open(int place) throws IndexOutOfBoundsException {
        checkIndex(place, text.count + 1);
        return reader.states[place].depth;
    }

    public int current(int place) throws IndexOutOfBoundsException {
        checkIndex(place, text.count + 1);
        return reader.states[place].currentElement();
    }

    public int next(int place) throws IndexOutOfBoundsException {
        checkIndex(place, text.count + 1);
        return reader.states[place].goesOnWith();
    }

    // ---- the tree

    public int things() {
        return reader.tree.count;
    }

    public int kind(int thing) throws IndexOutOfBoundsException {
        checkIndex(thing, reader.tree.count);
        return reader.tree.kinds[thing];
    }

    public int parent(int thing) throws IndexOutOfBoundsException {
        checkIndex(thing, reader.tree.count);
        return reader.tree.parents[thing];
    }

    public char letter(int thing) throws IndexOutOfBoundsException {
        checkIndex(thing, reader.tree.count);
        return reader.tree.letters[thing];
    }

    public int placeOf(int thing) throws IndexOutOfBoundsException {
        checkIndex(thing, reader.tree.count);
        return reader.tree.places[thing];
    }

    public boolean isPutIn(int thing) throws IndexOutOfBoundsException {
        checkIndex(thing, reader.tree.count);
        return reader.tree.putIns[thing];
    }

    public int endsPutIn() {
        return reader.endTagsPutIn;
    }

    // ---- errors

    public int errors() {
        return reader.errorCount;
    }

    public int errorKind(int error) throws IndexOutOfBoundsException {
        checkIndex(error, reader.errorCount);
        return reader.errorKinds[error];
    }

    public int errorAt(int error) throws IndexOutOfBoundsException {
        checkIndex(error, reader.errorCount);
        return reader.errorPlaces[error];
    }

    // ---- the normal form, ways

    public int normal() {
        return reader.normalForm.count;
    }

    public int normalSort(int token) throws IndexOutOfBoundsException {
        checkIndex(token, reader.normalForm.count);
        return reader.normalForm.sorts[token];
    }

    public int normalValue(int token) throws IndexOutOfBoundsException {
        checkIndex(token, reader.normalForm.count);
        return reader.normalForm.values[token];
    }

    public boolean isSame() {
        return reader.isNormalFormReadAsWritten();
    }

    public int ways() throws IllegalStateException {
        if (text.count > WAYS_TEXT_TOKENS) {
            throw new IllegalStateException("the text is too long for its ways");
        }
        for (int i = 0; i < text.count; i++) {
            int sort = text.sorts[i];
            if (sort != START && sort != END && sort != DATA) {
                throw new IllegalStateException("the text has a token that ways cannot have");
            }
        }
        return wayCounter.countWays();
    }

    private static void checkIndex(int index, int count) {
        if (index < 0 || index >= count) {
            throw new IndexOutOfBoundsException("there is none of that number");
        }
    }

    private static void checkToken(int sort, int value) {
        if (sort < START || sort > MARK_END || !isValueOf(sort, value)) {
            throw new IllegalArgumentException("no such token");
        }
    }

    private static boolean isValueOf(int sort, int value) {
        switch (sort) {
            case START:
            case END:
                return value >= 0 && value < ELEMENTS;
            case DATA:
                return value >= ' ' && value <= '~';
            case ENTITY:
                return value >= 0 && value < ENTITIES;
            case MARK:
                return value >= 0 && value < SWITCHES;
            default:
                return true;
        }
    }

    private static int lowestOf(int set) {
        return Integer.bitCount((set & -set) - 1);
    }

    /**
     * The slots of an element. How far a model is read is one number, its reach: twice the slot, and one more if
     * some were taken of that. What a reach allows is worked out when a slot comes or goes, as reading asks it often.
     */
    private static final class Model {
        private final int[] sets = new int[SLOTS];
        private final boolean[] takeMany = new boolean[SLOTS];
        private final boolean[] mayLack = new boolean[SLOTS];
        private int slots;
        /** The things with which the model can go on from a reach. */
        private final int[] onward = new int[REACHES];
        /** Whether the model can end at a reach. */
        private final boolean[] ends = new boolean[REACHES];
        /** The things with which the model could go on by two slots, however far it is read. */
        private int clashing;

        void addSlot(int set, int occurrence) {
            if (slots < SLOTS) {
                sets[slots] = set;
                takeMany[slots] = occurrence == STAR || occurrence == PLUS;
                mayLack[slots] = occurrence == OPTIONAL || occurrence == STAR;
                slots++;
                workOut();
            }
        }

        void dropLastSlot() {
            if (slots > 0) {
                slots--;
                workOut();
            }
        }

        void dropSlots() {
            slots = 0;
            clashing = 0;
        }

        /** The slot by which the model can go on with a thing; NONE if it cannot. */
        int slotFor(int reach, int thing) {
            if (reach < 0 || reach >= REACHES || (onward[reach] >> thing & 1) == 0) {
                return NONE;
            }
            // no thing can be read by two slots, so that the first one that takes it is the one in reach
            for (int i = reach / 2; i < slots; i++) {
                boolean some = i == reach / 2 && reach % 2 == 1;
                if ((sets[i] >> thing & 1) == 1 && (!some || takeMany[i])) {
                    return i;
                }
            }
            return NONE;
        }

        private void workOut() {
            clashing = 0;
            for (int reach = 0; reach < 2 * slots && reach < REACHES; reach++) {
                workOutReach(reach);
            }
        }

        private void workOutReach(int reach) {
            int seen = 0;
            boolean some = reach % 2 == 1;
            boolean enough = true;
            for (int i = reach / 2; i < slots && enough; i++) {
                int set = !some || takeMany[i] ? sets[i] : 0;
                clashing |= seen & set;
                seen |= set;
                enough = some || mayLack[i];
                some = false;
            }
            onward[reach] = seen;
            ends[reach] = enough;
        }
    }

    /** What the elements allow. */
    private static final class Grammar {
        private final Model[] models = new Model[ELEMENTS];
        private final int[] includes = new int[ELEMENTS];
        private final int[] excludes = new int[ELEMENTS];
        private final boolean[] startMayLack = new boolean[ELEMENTS];
        private final boolean[] endMayLack = new boolean[ELEMENTS];

        Grammar() {
            for (int i = 0; i < ELEMENTS; i++) {
                models[i] = new Model();
            }
        }
    }

    /** A row of tokens. */
    private static final class Row {
        private final int[] sorts;
        private final int[] values;
        private int count;

        Row(int most) {
            sorts = new int[most];
            values = new int[most];
        }

        /** The sort of a token; NONE where there is no token. */
        int sortAt(int place) {
            return place >= 0 && place < count ? sorts[place] : NONE;
        }

        void putToken(int place, int sort, int value) {
            if (place < 0 || place > count || count >= sorts.length) {
                return;
            }
            for (int i = count; i > place; i--) {
                sorts[i] = sorts[i - 1];
                values[i] = values[i - 1];
            }
            sorts[place] = sort;
            values[place] = value;
            count++;
        }

        void dropToken(int place) {
            if (place < 0 || place >= count) {
                return;
            }
            count--;
            for (int i = place; i < count; i++) {
                sorts[i] = sorts[i + 1];
                values[i] = values[i + 1];
            }
        }

        void copyFrom(Row other) {
            count = 0;
            for (int i = 0; i < other.count; i++) {
                putToken(i, other.sorts[i], other.values[i]);
            }
        }
    }

    /** A state of reading: what is open, and the moves that the grammar allows there. */
    private static final class State {
        private final Grammar grammar;
        private final int[] elements = new int[MOST_OPEN];
        private final int[] reaches = new int[MOST_OPEN];
        private int depth;
        /** The element that was opened last; NONE as long as none was. */
        private int last = NONE;
        /** How many MARKs are open in the text; what their switches are never counts, as only none is ever asked for. */
        private int marks;

        State(Grammar grammar) {
            this.grammar = grammar;
        }

        void restart() {
            depth = 0;
            last = NONE;
            marks = 0;
        }

        void copyFrom(State other) {
            depth = other.depth;
            last = other.last;
            marks = other.marks;
            for (int i = 0; i < depth; i++) {
                elements[i] = other.elements[i];
                reaches[i] = other.reaches[i];
            }
        }

        boolean isLike(State other) {
            if (depth != other.depth || last != other.last || marks != other.marks) {
                return false;
            }
            for (int i = 0; i < depth; i++) {
                if (elements[i] != other.elements[i] || reaches[i] != other.reaches[i]) {
                    return false;
                }
            }
            return true;
        }

        int currentElement() {
            return depth > 0 ? elements[depth - 1] : NONE;
        }

        /** Where the open element of that sort stands that was opened last; NONE if there is none. */
        int lastOpenOf(int element) {
            for (int i = depth - 1; i >= 0; i--) {
                if (elements[i] == element) {
                    return i;
                }
            }
            return NONE;
        }

        /** Whether the model of the current element can end. */
        boolean canEnd() {
            return depth > 0 && grammar.models[elements[depth - 1]].ends[reaches[depth - 1]];
        }

        /** The things with which the model of the current element can go on. */
        int goesOnWith() {
            return depth > 0 ? grammar.models[elements[depth - 1]].onward[reaches[depth - 1]] : 0;
        }

        /** Whether a thing is accepted; if its model goes on with it, it is read on then. */
        boolean accept(int thing) {
            if (last == NONE) {
                return thing == ROOT;
            }
            if (depth == 0 || isExcluded(thing)) {
                return false;
            }
            int slot = grammar.models[elements[depth - 1]].slotFor(reaches[depth - 1], thing);
            if (slot != NONE) {
                reaches[depth - 1] = 2 * slot + 1;
                return true;
            }
            return isIncluded(thing);
        }

        private boolean isExcluded(int thing) {
            for (int i = 0; i < depth; i++) {
                if ((grammar.excludes[elements[i]] >> thing & 1) == 1) {
                    return true;
                }
            }
            return false;
        }

        private boolean isIncluded(int thing) {
            for (int i = 0; i < depth; i++) {
                if ((grammar.includes[elements[i]] >> thing & 1) == 1) {
                    return true;
                }
            }
            return false;
        }

        /** The element that must come next and may be put in; NONE if there is none. */
        int elementToPutIn() {
            int things = goesOnWith();
            if (Integer.bitCount(things) != 1 || canEnd() || depth >= MOST_OPEN) {
                return NONE;
            }
            int thing = lowestOf(things);
            if (thing >= ELEMENTS || !grammar.startMayLack[thing] || grammar.models[thing].slots == 0) {
                return NONE;
            }
            return isExcluded(thing) ? NONE : thing;
        }

        /** Whether the end tag of the current element may be put in here. */
        boolean mayCloseUnasked() {
            return depth > 1 && grammar.endMayLack[elements[depth - 1]] && canEnd();
        }

        /** Opens an element; an EMPTY one is closed at once. */
        void enter(int element) {
            last = element;
            if (grammar.models[element].slots > 0 && depth < MOST_OPEN) {
                elements[depth] = element;
                reaches[depth] = 0;
                depth++;
            }
        }

        void leave() {
            if (depth > 0) {
                depth--;
            }
        }

        /** Reads a START, an END or a DATA, if that is no error and puts no tag in; whether it was read. */
        boolean readAsWritten(int sort, int value) {
            if (sort == END) {
                if (currentElement() != value || !canEnd()) {
                    return false;
                }
                leave();
                return true;
            }
            if (sort == DATA) {
                return accept(DATA_THING);
            }
            if (depth >= MOST_OPEN || !accept(value)) {
                return false;
            }
            enter(value);
            return true;
        }
    }

    /** The elements and data that were read, in the order in which they came. */
    private static final class Tree {
        private final int[] kinds = new int[MOST_THINGS];
        private final int[] parents = new int[MOST_THINGS];
        private final char[] letters = new char[MOST_THINGS];
        private final int[] places = new int[MOST_THINGS];
        private final boolean[] putIns = new boolean[MOST_THINGS];
        private int count;

        void addThing(int kind, int parent, char letter, int place, boolean putIn) {
            if (count < MOST_THINGS) {
                kinds[count] = kind;
                parents[count] = parent;
                letters[count] = letter;
                places[count] = place;
                putIns[count] = putIn;
                count++;
            }
        }
    }

    /** Reads the text into the tree, the errors, the states and the normal form. */
    private static final class Reader {
        private final Grammar grammar;
        private final Row text;
        private final Row[] entities;
        private final int[] switches;
        private final Tree tree = new Tree();
        private final Row normalForm = new Row(NORMAL_TOKENS);
        private final int[] errorKinds = new int[MOST_ERRORS];
        private final int[] errorPlaces = new int[MOST_ERRORS];
        private int errorCount;
        private int endTagsPutIn;
        private final State state;
        /** The numbers of the open elements in the tree. */
        private final int[] openThings = new int[MOST_OPEN];
        /** The state behind so many tokens of the text, and what it was ahead of the last reading. */
        private State[] states = new State[TEXT_TOKENS + 1];
        private State[] statesBefore = new State[TEXT_TOKENS + 1];
        /** The entities within which a token is read. */
        private final int[] within = new int[ENTITY_LEVELS];
        /** Where in the text the reading stands. */
        private int textPlace;
        /** How many tokens were read anew last. */
        private int readAnew;

        Reader(Grammar grammar, Row text, Row[] entities, int[] switches) {
            this.grammar = grammar;
            this.text = text;
            this.entities = entities;
            this.switches = switches;
            state = new State(grammar);
            for (int i = 0; i <= TEXT_TOKENS; i++) {
                states[i] = new State(grammar);
                statesBefore[i] = new State(grammar);
            }
        }

        /** Reads the whole text. */
        void readText() {
            readAnew = text.count;
            State[] spare = statesBefore;
            statesBefore = states;
            states = spare;
            tree.count = 0;
            errorCount = 0;
            endTagsPutIn = 0;
            state.restart();
            states[0].copyFrom(state);
            goThrough(text, 0);
            closeUpTo(0, false);
            writeNormalForm();
        }

        /**
         * Tells, behind the reading of a text with an edit, how many tokens that reads anew. The place of the edit is
         * given, the first place at which it may stop, and how far from a place of now that place of before stands
         * that has as many tokens behind it.
         */
        void countReadAnew(int place, int firstStop, int toBefore) {
            // a LINE looks at its neighbours, so that it is read anew where one of them changed
            int from = text.sortAt(place - 1) == LINE ? place - 1 : place;
            int stop = text.sortAt(firstStop) == LINE ? firstStop + 1 : firstStop;
            while (stop < text.count && !isAsBefore(stop, stop + toBefore)) {
                stop++;
            }
            readAnew = stop - from;
        }

        private boolean isAsBefore(int now, int before) {
            if (now < 0 || now >= states.length || before < 0 || before >= statesBefore.length) {
                return false;
            }
            return states[now].marks == 0 && states[now].isLike(statesBefore[before]);
        }

        /** Goes through a row that stands within so many entities. */
        private void goThrough(Row row, int level) {
            int included = 0;
            // the open MARK whose switch is IGNORE or PLAIN, and those within it
            int covered = 0;
            int cover = IGNORE;
            for (int i = 0; i < row.count; i++) {
                int sort = row.sorts[i];
                int value = row.values[i];
                textPlace = level == 0 ? i : textPlace;
                if (covered > 0) {
                    covered += sort == MARK ? 1 : sort == MARK_END ? -1 : 0;
                    if (covered > 0 && cover == PLAIN) {
                        readThing(DATA_THING, plainLetter(sort, value));
                    }
                } else if (sort == MARK) {
                    cover = switches[value];
                    included += cover == INCLUDE ? 1 : 0;
                    covered = cover == INCLUDE ? 0 : 1;
                } else if (sort == MARK_END && included > 0) {
                    included--;
                } else {
                    readToken(row, i, level);
                }
                if (level == 0) {
                    keepState(i + 1, included + covered);
                }
            }
            textPlace = level == 0 ? row.count : textPlace;
            for (int i = 0; i < included + covered; i++) {
                addError(UNMARKED);
            }
        }

        private static char plainLetter(int sort, int value) {
            return sort == DATA ? (char) value : sort == LINE ? ' ' : '*';
        }

        private void keepState(int place, int marks) {
            if (place >= 0 && place < states.length) {
                states[place].copyFrom(state);
                states[place].marks = marks;
            }
        }

        private void readToken(Row row, int place, int level) {
            int value = row.values[place];
            switch (row.sorts[place]) {
                case START:
                    readThing(value, '<');
                    break;
                case EMPTY_START:
                    if (state.last == NONE) {
                        addError(NOTHING);
                    } else {
                        readThing(state.last, '<');
                    }
                    break;
                case END:
                    closeByTag(state.lastOpenOf(value));
                    break;
                case EMPTY_END:
                    closeByTag(state.lastOpenOf(state.currentElement()));
                    break;
                case DATA:
                    readThing(DATA_THING, (char) value);
                    break;
                case LINE:
                    if (!isLineLeftOut(row, place)) {
                        readThing(DATA_THING, ' ');
                    }
                    break;
                case ENTITY:
                    goThroughEntity(value, level);
                    break;
                default:
                    // a MARK_END without its MARK
                    addError(UNMARKED);
                    break;
            }
        }

        private static boolean isLineLeftOut(Row row, int place) {
            int ahead = row.sortAt(place - 1);
            int behind = row.sortAt(place + 1);
            return ahead == START || ahead == EMPTY_START || behind == END || behind == EMPTY_END;
        }

        private void goThroughEntity(int entity, int level) {
            boolean isRing = level >= ENTITY_LEVELS;
            for (int i = 0; i < level && i < ENTITY_LEVELS; i++) {
                isRing = isRing || within[i] == entity;
            }
            if (isRing) {
                addError(RING);
                return;
            }
            within[level] = entity;
            goThrough(entities[entity], level + 1);
        }

        /** Reads an element, or data with its letter. */
        private void readThing(int thing, char letter) {
            int putIn = 0;
            for (int round = 0; round < MOST_ROUNDS; round++) {
                if (tree.count >= MOST_THINGS || thing != DATA_THING && state.depth >= MOST_OPEN) {
                    addError(DEEP);
                    return;
                }
                if (state.accept(thing)) {
                    addThing(thing, letter, false);
                    return;
                }
                int missing = putIn < MOST_PUT_IN ? state.elementToPutIn() : NONE;
                if (state.last == NONE && grammar.startMayLack[ROOT]) {
                    addThing(ROOT, '<', true);
                } else if (missing != NONE) {
                    state.accept(missing);
                    addThing(missing, '<', true);
                    putIn++;
                } else if (state.mayCloseUnasked()) {
                    state.leave();
                    endTagsPutIn++;
                } else {
                    addError(NOT_HERE);
                    return;
                }
            }
        }

        /** Puts a thing into the tree, and opens it if it is an element. */
        private void addThing(int thing, char letter, boolean putIn) {
            int parent = state.depth > 0 ? openThings[state.depth - 1] : NONE;
            int number = tree.count;
            tree.addThing(thing, parent, letter, textPlace, putIn);
            if (thing == DATA_THING) {
                return;
            }
            if (state.depth < MOST_OPEN) {
                openThings[state.depth] = number;
            }
            state.enter(thing);
        }

        private void closeByTag(int target) {
            if (target == NONE) {
                addError(NOTHING);
            } else {
                closeUpTo(target, true);
            }
        }

        /** Closes the open elements down to one; its own end tag is written, or is put in like the others. */
        private void closeUpTo(int target, boolean isWritten) {
            for (int i = state.depth - 1; i >= target; i--) {
                if (!state.canEnd()) {
                    addError(SHORT);
                }
                if (i > target || !isWritten) {
                    endTagsPutIn++;
                    if (!grammar.endMayLack[state.elements[i]]) {
                        addError(OPEN);
                    }
                }
                state.leave();
            }
        }

        private void addError(int kind) {
            if (errorCount < MOST_ERRORS) {
                errorKinds[errorCount] = kind;
                errorPlaces[errorCount] = textPlace;
                errorCount++;
            }
        }

        /** Writes the tree out; things are numbered as they came, so that each stands behind its parent's tag. */
        private void writeNormalForm() {
            normalForm.count = 0;
            int depth = 0;
            for (int i = 0; i < tree.count; i++) {
                depth = writeEnds(depth, tree.parents[i]);
                int kind = tree.kinds[i];
                if (kind == DATA_THING) {
                    normalForm.putToken(normalForm.count, DATA, tree.letters[i]);
                } else {
                    normalForm.putToken(normalForm.count, START, kind);
                    if (grammar.models[kind].slots > 0 && depth < MOST_OPEN) {
                        openThings[depth] = i;
                        depth++;
                    }
                }
            }
            writeEnds(depth, NONE);
        }

        /** Writes the end tags of the open things above a parent; how many are open then. */
        private int writeEnds(int depth, int parent) {
            for (int i = depth - 1; i >= 0; i--) {
                if (openThings[i] == parent) {
                    return i + 1;
                }
                normalForm.putToken(normalForm.count, END, tree.kinds[openThings[i]]);
            }
            return 0;
        }

        /**
         * Whether the normal form is read without errors and with nothing put in. Each of its tags then opens or
         * closes just what it was written for, so that the tree is the same by itself.
         */
        boolean isNormalFormReadAsWritten() {
            state.restart();
            for (int i = 0; i < normalForm.count; i++) {
                if (!state.readAsWritten(normalForm.sorts[i], normalForm.values[i])) {
                    return false;
                }
            }
            return state.depth == 0;
        }
    }

    /** Counts the ways to put tags in, by reading the text as written and trying each tag at each place. */
    private static final class WayCounter {
        private final Grammar grammar;
        private final Row text;
        /** The state behind so many tokens of the row that is tried. */
        private final State[] trail = new State[WAYS_TEXT_TOKENS + WAYS_PUT_IN + 1];
        private int found;

        WayCounter(Grammar grammar, Row text) {
            this.grammar = grammar;
            this.text = text;
            for (int i = 0; i < trail.length; i++) {
                trail[i] = new State(grammar);
            }
        }

        int countWays() {
            found = 0;
            trail[0].restart();
            tryFrom(0, 0);
            return found;
        }

        /** Tries all rows that go on from so many tokens of the text, and so many that were put in. */
        private void tryFrom(int read, int put) {
            int level = read + put;
            if (level >= trail.length || found >= MOST_WAYS) {
                return;
            }
            if (read < text.count) {
                tryToken(text.sorts[read], text.values[read], read, put, false);
            } else if (trail[level].depth == 0) {
                found++;
            }
            for (int i = 0; i < ELEMENTS && put < WAYS_PUT_IN; i++) {
                if (grammar.startMayLack[i]) {
                    tryToken(START, i, read, put, true);
                }
                if (grammar.endMayLack[i]) {
                    tryToken(END, i, read, put, true);
                }
            }
        }

        /** Tries the rows that go on with a token, which is put in or is the next one of the text. */
        private void tryToken(int sort, int value, int read, int put, boolean isPut) {
            int level = read + put;
            if (level + 1 >= trail.length) {
                return;
            }
            trail[level + 1].copyFrom(trail[level]);
            if (trail[level + 1].readAsWritten(sort, value)) {
                tryFrom(isPut ? read : read + 1, isPut ? put + 1 : put);
            }
        }
    }
}
