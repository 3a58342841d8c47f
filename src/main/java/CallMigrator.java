import java.util.Arrays;

/**
 * Moves the call sites of an expression from the functions of an old interface to those of a new
 * one. Every answer is a number; a negative one tells why a call was refused.
 */
public final class CallMigrator {
    public static final int OUT_OF_RANGE = -2;
    public static final int MISSING = -3;
    public static final int FULL = -4;
    public static final int NOTHING_SAVED = -5;
    public static final int NONE = -1;

    private static final int OLD_FUNCTIONS = 6;
    private static final int NEW_FUNCTIONS = 6;
    private static final int ADAPTERS = 4;
    private static final int MOST_OLD_ARITY = 3;
    private static final int MOST_NEW_ARITY = 4;
    private static final int POSITIONS = 4;
    private static final int CONSTANT_TERM = -1;
    private static final int MOST_TERM = 99;
    private static final int MOST_SOURCE = 2;
    private static final int MODULUS = 1000;
    private static final int MOST_NODES = 30;
    private static final int MOST_INPUT = 120;
    private static final int MOST_SAVED = 4;
    private static final int SYNTAX_ERROR = -10;
    private static final int DIGEST_START = 2683;

    private static final int NUMBER = 0;
    private static final int VARIABLE = 1;
    private static final int OLD_CALL = 2;
    private static final int NEW_CALL = 3;
    private static final int ADAPTER_CALL = 4;

    private static final int REPLACED = 0;
    private static final int OTHER_ARITY = 1;
    private static final int NO_MAPPING = 2;
    private static final int NOT_FAITHFUL = 3;
    private static final int EFFECT_REPEATED = 4;
    private static final int EFFECT_LOST = 5;
    private static final int EFFECTS_REORDERED = 6;
    private static final int TOO_MANY_NODES = 7;
    private static final int LAST_REASON = 7;

    private final State now = new State();
    private final History history = new History();
    private final InputText input = new InputText();
    private final Program parsed = new Program();
    private final ProgramText written = new ProgramText();
    private final Evaluator evaluator = new Evaluator();
    private final Mover mover = new Mover();
    private final int[] errors = new int[OUT_OF_RANGE - NOTHING_SAVED + 1];

    public CallMigrator() {
    }

    public int setOld(int function, int arity, int effect) {
        if (!isOld(function) || !within(arity, 0, MOST_OLD_ARITY) || !within(effect, 0, 1)) {
            return refuse(OUT_OF_RANGE);
        }
        return changeShape(now.olds, function, arity, effect);
    }

    public int setNew(int function, int arity, int effect) {
        if (!isNew(function) || !within(arity, 0, MOST_NEW_ARITY) || !within(effect, 0, 1)) {
            return refuse(OUT_OF_RANGE);
        }
        return changeShape(now.news, function, arity, effect);
    }

    public int setOldTerm(int function, int position, int value) {
        if (!isOld(function) || !isTermPosition(position) || !within(value, 0, MOST_TERM)) {
            return refuse(OUT_OF_RANGE);
        }
        return changeTerm(now.olds, function, position, value);
    }

    public int setNewTerm(int function, int position, int value) {
        if (!isNew(function) || !isTermPosition(position) || !within(value, 0, MOST_TERM)) {
            return refuse(OUT_OF_RANGE);
        }
        return changeTerm(now.news, function, position, value);
    }

    public int map(int oldFunction, int newFunction) {
        if (!isOld(oldFunction) || !isNew(newFunction)) {
            return refuse(OUT_OF_RANGE);
        }
        history.save(now);
        if (now.mappings.targetOf(oldFunction) == NONE) {
            now.mappings.resetEntries(oldFunction);
        }
        now.mappings.putTarget(oldFunction, newFunction);
        return faithfulness(oldFunction);
    }

    public int unmap(int oldFunction) {
        if (!isOld(oldFunction)) {
            return refuse(OUT_OF_RANGE);
        }
        int target = now.mappings.targetOf(oldFunction);
        if (target == NONE) {
            return refuse(MISSING);
        }
        history.save(now);
        now.mappings.putTarget(oldFunction, NONE);
        return target;
    }

    public int setSource(int oldFunction, int position, int source) {
        if (!isOld(oldFunction) || !isEntryPosition(position) || !isSource(source)) {
            return refuse(OUT_OF_RANGE);
        }
        return changeEntry(oldFunction, position, source, 0);
    }

    public int setConstant(int oldFunction, int position, int value) {
        if (!isOld(oldFunction) || !isEntryPosition(position) || !within(value, 0, MOST_TERM)) {
            return refuse(OUT_OF_RANGE);
        }
        return changeEntry(oldFunction, position, NONE, value);
    }

    public int isFaithful(int oldFunction) {
        if (!isOld(oldFunction)) {
            return refuse(OUT_OF_RANGE);
        }
        if (now.mappings.targetOf(oldFunction) == NONE) {
            return refuse(MISSING);
        }
        return faithfulness(oldFunction);
    }

    public int allowAdapters(int allowed) {
        if (!within(allowed, 0, 1)) {
            return refuse(OUT_OF_RANGE);
        }
        history.save(now);
        int previous = now.adaptersAllowed;
        now.adaptersAllowed = allowed;
        return previous;
    }

    public int adapterOf(int oldFunction) {
        if (!isOld(oldFunction)) {
            return refuse(OUT_OF_RANGE);
        }
        int adapter = now.adapterNumber(oldFunction);
        return adapter == NONE ? refuse(MISSING) : adapter;
    }

    public int append(int value) {
        if (!within(value, 0, 127)) {
            return refuse(OUT_OF_RANGE);
        }
        return input.add(value) ? input.length : refuse(FULL);
    }

    public int clearText() {
        int previous = input.length;
        input.length = 0;
        return previous;
    }

    public int parse() {
        if (!input.readProgram(now, parsed)) {
            return SYNTAX_ERROR - input.position;
        }
        history.save(now);
        now.program.copyFrom(parsed);
        return now.program.size;
    }

    public int migrate() {
        history.save(now);
        Arrays.fill(now.outcomes, 0);
        mover.treatFrom(now, 0, 0);
        return now.outcomes[REPLACED];
    }

    public int left(int reason) {
        if (!within(reason, 1, LAST_REASON)) {
            return refuse(OUT_OF_RANGE);
        }
        return now.outcomes[reason];
    }

    public int sites() {
        return now.program.countSites();
    }

    public int nodes() {
        return now.program.size;
    }

    public int value(int x, int y) {
        if (!within(x, 0, MODULUS - 1) || !within(y, 0, MODULUS - 1)) {
            return refuse(OUT_OF_RANGE);
        }
        return evaluator.evaluate(now, x, y);
    }

    public int textByte(int index) {
        if (index < -1) {
            return refuse(OUT_OF_RANGE);
        }
        written.write(now.program);
        if (index == -1) {
            return written.length;
        }
        return index < written.length ? written.bytes[index] : NONE;
    }

    public int undo() {
        return history.restore(now) ? history.count : refuse(NOTHING_SAVED);
    }

    public int errorCount(int code) {
        if (!within(code, NOTHING_SAVED, OUT_OF_RANGE)) {
            return refuse(OUT_OF_RANGE);
        }
        return errors[OUT_OF_RANGE - code];
    }

    public long digest() {
        long hash = DIGEST_START;
        for (int i = 0; i < errors.length; i++) {
            hash = mix(hash, errors[i]);
        }
        hash = mix(hash, input.length);
        hash = mixFunctions(hash, now.olds);
        hash = mixFunctions(hash, now.news);
        hash = mixMappings(hash);
        hash = mix(hash, now.adaptersAllowed);
        hash = mixProgram(hash);
        for (int reason = 1; reason <= LAST_REASON; reason++) {
            hash = mix(hash, now.outcomes[reason]);
        }
        return mix(hash, history.count);
    }

    private static long mix(long hash, int number) {
        return 31 * hash + number;
    }

    private static long mixFunctions(long start, FunctionTable table) {
        long hash = start;
        for (int f = 0; f < table.count; f++) {
            hash = mix(hash, table.arityOf(f));
            hash = mix(hash, table.effectOf(f));
            for (int position = CONSTANT_TERM; position < POSITIONS; position++) {
                hash = mix(hash, table.term(f, position));
            }
        }
        return hash;
    }

    private long mixMappings(long start) {
        long hash = start;
        for (int f = 0; f < OLD_FUNCTIONS; f++) {
            boolean mapped = now.mappings.targetOf(f) != NONE;
            hash = mix(hash, mapped ? 1 + faithfulness(f) : 0);
            hash = mix(hash, now.adapterNumber(f));
        }
        return hash;
    }

    private long mixProgram(long start) {
        long hash = start;
        written.write(now.program);
        for (int i = 0; i < written.length; i++) {
            hash = mix(hash, written.bytes[i]);
        }
        return mix(hash, now.program.countSites());
    }

    private int changeShape(FunctionTable table, int function, int arity, int effect) {
        history.save(now);
        int previous = table.arityOf(function);
        table.putShape(function, arity, effect);
        return previous;
    }

    private int changeTerm(FunctionTable table, int function, int position, int term) {
        history.save(now);
        int previous = table.term(function, position);
        table.putTerm(function, position, term);
        return previous;
    }

    private int changeEntry(int oldFunction, int position, int source, int constant) {
        if (now.mappings.targetOf(oldFunction) == NONE) {
            return refuse(MISSING);
        }
        history.save(now);
        now.mappings.putEntry(oldFunction, position, source, constant);
        return faithfulness(oldFunction);
    }

    private int faithfulness(int oldFunction) {
        return now.keepsMeaning(oldFunction) ? 1 : 0;
    }

    private int refuse(int code) {
        int counter = OUT_OF_RANGE - code;
        if (within(counter, 0, errors.length - 1)) {
            errors[counter]++;
        }
        return code;
    }

    private static boolean isOld(int function) {
        return within(function, 0, OLD_FUNCTIONS - 1);
    }

    private static boolean isNew(int function) {
        return within(function, 0, NEW_FUNCTIONS - 1);
    }

    private static boolean isTermPosition(int position) {
        return within(position, CONSTANT_TERM, POSITIONS - 1);
    }

    private static boolean isEntryPosition(int position) {
        return within(position, 0, POSITIONS - 1);
    }

    private static boolean isSource(int number) {
        return within(number, 0, MOST_SOURCE);
    }

    private static boolean within(int number, int lowest, int highest) {
        return number >= lowest && number <= highest;
    }

    private static boolean isCall(int kind) {
        return kind == OLD_CALL || kind == NEW_CALL || kind == ADAPTER_CALL;
    }

    /** The functions of one kind: their arities, effect flags and terms. */
    private static final class FunctionTable {
        private static final int TERMS = POSITIONS + 1;

        final int count;
        private final int[] arities;
        private final int[] effects;
        private final int[] terms;

        FunctionTable(int size) {
            count = Math.max(size, 0);
            arities = new int[count];
            effects = new int[count];
            terms = new int[count * TERMS];
            Arrays.fill(arities, 1);
        }

        int arityOf(int function) {
            return within(function, 0, count - 1) ? arities[function] : 0;
        }

        int effectOf(int function) {
            return within(function, 0, count - 1) ? effects[function] : 0;
        }

        void putShape(int function, int arity, int effect) {
            if (within(function, 0, count - 1)) {
                arities[function] = arity;
                effects[function] = effect;
            }
        }

        int term(int function, int position) {
            int slot = slotOf(function, position);
            return within(slot, 0, terms.length - 1) ? terms[slot] : 0;
        }

        void putTerm(int function, int position, int term) {
            int slot = slotOf(function, position);
            if (within(slot, 0, terms.length - 1)) {
                terms[slot] = term;
            }
        }

        // The constant term has position -1, so it stands ahead of the coefficients.
        private static int slotOf(int function, int position) {
            return function * TERMS + position - CONSTANT_TERM;
        }

        void copyFunction(int to, FunctionTable other, int from) {
            if (!within(to, 0, count - 1) || !within(from, 0, other.count - 1)) {
                return;
            }
            arities[to] = other.arities[from];
            effects[to] = other.effects[from];
            System.arraycopy(other.terms, from * TERMS, terms, to * TERMS, TERMS);
        }

        void copyFrom(FunctionTable other) {
            for (int f = 0; f < count; f++) {
                copyFunction(f, other, f);
            }
        }
    }

    /** The mapping of each old function: its new function and the entries of its template. */
    private static final class Mappings {
        private static final int ENTRIES = OLD_FUNCTIONS * POSITIONS;

        private final int[] targets = new int[OLD_FUNCTIONS];
        private final int[] sources = new int[ENTRIES];
        private final int[] constants = new int[ENTRIES];

        Mappings() {
            Arrays.fill(targets, NONE);
        }

        /** The new function of a mapping, or NONE if there is no mapping. */
        int targetOf(int oldFunction) {
            return within(oldFunction, 0, OLD_FUNCTIONS - 1) ? targets[oldFunction] : NONE;
        }

        void putTarget(int oldFunction, int target) {
            if (within(oldFunction, 0, OLD_FUNCTIONS - 1)) {
                targets[oldFunction] = target;
            }
        }

        void resetEntries(int oldFunction) {
            for (int position = 0; position < POSITIONS; position++) {
                putEntry(oldFunction, position, position <= MOST_SOURCE ? position : NONE, 0);
            }
        }

        void putEntry(int oldFunction, int position, int source, int constant) {
            int entry = oldFunction * POSITIONS + position;
            if (within(entry, 0, ENTRIES - 1)) {
                sources[entry] = source;
                constants[entry] = constant;
            }
        }

        /** The source of an entry, or NONE if the entry is a constant. */
        int sourceAt(int oldFunction, int position) {
            int entry = oldFunction * POSITIONS + position;
            return within(entry, 0, ENTRIES - 1) ? sources[entry] : NONE;
        }

        int constantAt(int oldFunction, int position) {
            int entry = oldFunction * POSITIONS + position;
            return within(entry, 0, ENTRIES - 1) ? constants[entry] : 0;
        }

        void copyFrom(Mappings other) {
            System.arraycopy(other.targets, 0, targets, 0, OLD_FUNCTIONS);
            System.arraycopy(other.sources, 0, sources, 0, ENTRIES);
            System.arraycopy(other.constants, 0, constants, 0, ENTRIES);
        }
    }

    /**
     * An expression as its nodes in the order in which they are written. With the number of
     * arguments of each node this fixes the shape, and copies are copies of rows.
     */
    private static final class Program {
        int size = 0;
        final int[] kind = new int[MOST_NODES];
        /** The number's value, 0 or 1 for the variable x or y, or the function's number. */
        final int[] number = new int[MOST_NODES];
        final int[] argumentCount = new int[MOST_NODES];

        boolean add(int nodeKind, int nodeNumber, int arguments) {
            if (size >= MOST_NODES) {
                return false;
            }
            kind[size] = nodeKind;
            number[size] = nodeNumber;
            argumentCount[size] = arguments;
            size++;
            return true;
        }

        void addNodes(Program other, int from, int to) {
            for (int i = Math.max(from, 0); i < to && i < other.size; i++) {
                add(other.kind[i], other.number[i], other.argumentCount[i]);
            }
        }

        /** The index behind the last node of the expression that begins at a node. */
        int endOf(int node) {
            int awaited = 1;
            int i = node;
            while (awaited > 0 && within(i, 0, size - 1)) {
                awaited += argumentCount[i] - 1;
                i++;
            }
            return i;
        }

        /** Puts another expression where the one from a node up to an end stands. */
        void replace(int node, int end, Program part) {
            int rest = size - end;
            int newSize = node + part.size + rest;
            if (node < 0 || end < node || rest < 0 || newSize > MOST_NODES) {
                return;
            }
            replaceIn(kind, end, rest, part.kind, node, part.size);
            replaceIn(number, end, rest, part.number, node, part.size);
            replaceIn(argumentCount, end, rest, part.argumentCount, node, part.size);
            size = newSize;
        }

        private static void replaceIn(int[] row, int end, int rest, int[] part, int at, int length) {
            System.arraycopy(row, end, row, at + length, rest);
            System.arraycopy(part, 0, row, at, length);
        }

        int countSites() {
            int count = 0;
            for (int i = 0; i < size; i++) {
                if (kind[i] == OLD_CALL) {
                    count++;
                }
            }
            return count;
        }

        void copyFrom(Program other) {
            size = 0;
            addNodes(other, 0, other.size);
        }
    }

    /** All that undo brings back. */
    private static final class State {
        final FunctionTable olds = new FunctionTable(OLD_FUNCTIONS);
        final FunctionTable news = new FunctionTable(NEW_FUNCTIONS);
        final FunctionTable adapters = new FunctionTable(ADAPTERS);
        int adapterCount = 0;
        private final int[] adapterNumbers = new int[OLD_FUNCTIONS];
        int adaptersAllowed = 0;
        final Mappings mappings = new Mappings();
        final Program program = new Program();
        /** The sites that the latest migration replaced, then those it left for each reason. */
        final int[] outcomes = new int[LAST_REASON + 1];

        State() {
            Arrays.fill(adapterNumbers, NONE);
            program.add(NUMBER, 0, 0);
        }

        void copyFrom(State other) {
            olds.copyFrom(other.olds);
            news.copyFrom(other.news);
            adapters.copyFrom(other.adapters);
            adapterCount = other.adapterCount;
            System.arraycopy(other.adapterNumbers, 0, adapterNumbers, 0, OLD_FUNCTIONS);
            adaptersAllowed = other.adaptersAllowed;
            mappings.copyFrom(other.mappings);
            program.copyFrom(other.program);
            System.arraycopy(other.outcomes, 0, outcomes, 0, LAST_REASON + 1);
        }

        FunctionTable tableOf(int callKind) {
            if (callKind == OLD_CALL) {
                return olds;
            }
            return callKind == NEW_CALL ? news : adapters;
        }

        /** How many entries of the template are used; 0 if there is no mapping. */
        int usedEntries(int oldFunction) {
            return news.arityOf(mappings.targetOf(oldFunction));
        }

        /** Whether the function has a mapping and it is faithful. */
        boolean keepsMeaning(int oldFunction) {
            int used = usedEntries(oldFunction);
            return mappings.targetOf(oldFunction) != NONE
                && isWellFormed(oldFunction, used)
                && keepsConstant(oldFunction, used)
                && keepsCoefficients(oldFunction, used);
        }

        private boolean isWellFormed(int oldFunction, int used) {
            for (int position = 0; position < used; position++) {
                if (mappings.sourceAt(oldFunction, position) >= olds.arityOf(oldFunction)) {
                    return false;
                }
            }
            return true;
        }

        private boolean keepsConstant(int oldFunction, int used) {
            int target = mappings.targetOf(oldFunction);
            int sum = news.term(target, CONSTANT_TERM);
            for (int position = 0; position < used; position++) {
                if (mappings.sourceAt(oldFunction, position) == NONE) {
                    sum += news.term(target, position) * mappings.constantAt(oldFunction, position);
                }
            }
            return sum % MODULUS == olds.term(oldFunction, CONSTANT_TERM);
        }

        private boolean keepsCoefficients(int oldFunction, int used) {
            int target = mappings.targetOf(oldFunction);
            for (int source = 0; source < olds.arityOf(oldFunction); source++) {
                int sum = 0;
                for (int position = 0; position < used; position++) {
                    if (mappings.sourceAt(oldFunction, position) == source) {
                        sum += news.term(target, position);
                    }
                }
                if (sum % MODULUS != olds.term(oldFunction, source)) {
                    return false;
                }
            }
            return true;
        }

        boolean canUseAdapter(int oldFunction) {
            return adaptersAllowed == 1
                && (adapterNumber(oldFunction) != NONE || adapterCount < ADAPTERS);
        }

        /** The adapter of an old function, or NONE if there is none. */
        int adapterNumber(int oldFunction) {
            return within(oldFunction, 0, OLD_FUNCTIONS - 1) ? adapterNumbers[oldFunction] : NONE;
        }

        /** The adapter of an old function, which is made if there is none yet. */
        int provideAdapter(int oldFunction) {
            if (within(oldFunction, 0, OLD_FUNCTIONS - 1) && adapterNumbers[oldFunction] == NONE) {
                adapters.copyFunction(adapterCount, olds, oldFunction);
                adapterNumbers[oldFunction] = adapterCount;
                adapterCount++;
            }
            return adapterNumber(oldFunction);
        }

        /** Whether one of the program's nodes from one index up to another calls with an effect. */
        boolean hasEffect(int from, int to) {
            for (int i = Math.max(from, 0); i < to && i < program.size; i++) {
                int kind = program.kind[i];
                if (isCall(kind) && tableOf(kind).effectOf(program.number[i]) == 1) {
                    return true;
                }
            }
            return false;
        }
    }

    /** The saved states, the oldest first. Their rows are made once and used again. */
    private static final class History {
        private final State[] saved = new State[MOST_SAVED];
        int count = 0;

        History() {
            for (int i = 0; i < MOST_SAVED; i++) {
                saved[i] = new State();
            }
        }

        void save(State state) {
            if (count >= MOST_SAVED) {
                dropOldest();
            }
            saved[count].copyFrom(state);
            count++;
        }

        private void dropOldest() {
            State oldest = saved[0];
            for (int i = 1; i < MOST_SAVED; i++) {
                saved[i - 1] = saved[i];
            }
            saved[MOST_SAVED - 1] = oldest;
            count = MOST_SAVED - 1;
        }

        boolean restore(State state) {
            if (count <= 0) {
                return false;
            }
            count--;
            state.copyFrom(saved[count]);
            return true;
        }
    }

    /** The input text, and the reading of an expression from it. */
    private static final class InputText {
        private final int[] bytes = new int[MOST_INPUT];
        int length = 0;
        /** The next byte to read; after a reading that failed, the one that cannot stand there. */
        int position = 0;

        boolean add(int character) {
            if (length >= MOST_INPUT) {
                return false;
            }
            bytes[length] = character;
            length++;
            return true;
        }

        boolean readProgram(State functions, Program out) {
            position = 0;
            out.size = 0;
            return readExpression(functions, out) && position == length;
        }

        // Each level has added a node to out, so that the limit of nodes also ends the recursion.
        private boolean readExpression(State functions, Program out) {
            if (position >= length || out.size >= MOST_NODES) {
                return false;
            }
            int first = bytes[position];
            if (within(first, '0', '9')) {
                return readNumber(out);
            }
            if (within(first, 'x', 'y')) {
                position++;
                return out.add(VARIABLE, first - 'x', 0);
            }
            if (within(first, 'a', 'a' + OLD_FUNCTIONS - 1)) {
                return readCall(functions, out, OLD_CALL, first - 'a');
            }
            if (within(first, 'A', 'A' + NEW_FUNCTIONS - 1)) {
                return readCall(functions, out, NEW_CALL, first - 'A');
            }
            if (within(first, 'p', 'p' + functions.adapterCount - 1)) {
                return readCall(functions, out, ADAPTER_CALL, first - 'p');
            }
            return false;
        }

        private boolean readNumber(Program out) {
            int number = 0;
            for (int digits = 0; digits < 2 && digitFollows(); digits++) {
                number = number * 10 + bytes[position] - '0';
                position++;
            }
            return out.add(NUMBER, number, 0);
        }

        private boolean digitFollows() {
            return position < length && within(bytes[position], '0', '9');
        }

        private boolean readCall(State functions, Program out, int kind, int function) {
            int arity = functions.tableOf(kind).arityOf(function);
            position++;
            if (!take('(') || !out.add(kind, function, arity)) {
                return false;
            }
            for (int i = 0; i < arity; i++) {
                if (i > 0 && !take(',')) {
                    return false;
                }
                if (!readExpression(functions, out)) {
                    return false;
                }
            }
            return take(')');
        }

        private boolean take(int character) {
            if (position >= length || bytes[position] != character) {
                return false;
            }
            position++;
            return true;
        }
    }

    /** The text of a program. */
    private static final class ProgramText {
        // A call has three bytes of its own, and a comma may follow.
        private static final int MOST_BYTES = 4 * MOST_NODES;

        final int[] bytes = new int[MOST_BYTES];
        int length = 0;
        /** For each call that is still open, how many of its arguments are not yet written. */
        private final int[] awaited = new int[MOST_NODES];
        private int openCalls = 0;

        void write(Program program) {
            length = 0;
            openCalls = 0;
            for (int i = 0; i < program.size; i++) {
                if (isCall(program.kind[i])) {
                    openCall(program.kind[i], program.number[i], program.argumentCount[i]);
                } else {
                    writeLeaf(program.kind[i], program.number[i]);
                    finishArgument();
                }
            }
        }

        private void writeLeaf(int kind, int number) {
            if (kind == VARIABLE) {
                put('x' + number);
                return;
            }
            if (number >= 10) {
                put('0' + number / 10);
            }
            put('0' + number % 10);
        }

        private void openCall(int kind, int function, int arguments) {
            put(firstLetterOf(kind) + function);
            put('(');
            if (arguments == 0) {
                put(')');
                finishArgument();
            } else if (openCalls < MOST_NODES) {
                awaited[openCalls] = arguments;
                openCalls++;
            }
        }

        private static int firstLetterOf(int kind) {
            if (kind == OLD_CALL) {
                return 'a';
            }
            return kind == NEW_CALL ? 'A' : 'p';
        }

        // The end of an argument may be the end of its call, which may end another one.
        private void finishArgument() {
            for (; openCalls > 0; openCalls--) {
                awaited[openCalls - 1]--;
                if (awaited[openCalls - 1] > 0) {
                    put(',');
                    return;
                }
                put(')');
            }
        }

        private void put(int character) {
            if (length < MOST_BYTES) {
                bytes[length] = character;
                length++;
            }
        }
    }

    /** Computes the value of a program from its last node to its first. */
    private static final class Evaluator {
        /** The values of the expressions behind the node at hand, the nearest one last. */
        private final int[] stack = new int[MOST_NODES];
        private int top = 0;

        int evaluate(State state, int x, int y) {
            Program program = state.program;
            top = 0;
            for (int i = program.size - 1; i >= 0; i--) {
                if (isCall(program.kind[i])) {
                    FunctionTable table = state.tableOf(program.kind[i]);
                    push(callResult(table, program.number[i], program.argumentCount[i]));
                } else if (program.kind[i] == VARIABLE) {
                    push(program.number[i] == 0 ? x : y);
                } else {
                    push(program.number[i]);
                }
            }
            return pop();
        }

        private int callResult(FunctionTable table, int function, int arguments) {
            int sum = table.term(function, CONSTANT_TERM);
            for (int position = 0; position < arguments; position++) {
                sum += table.term(function, position) * pop();
            }
            return sum % MODULUS;
        }

        private void push(int number) {
            if (top < MOST_NODES) {
                stack[top] = number;
                top++;
            }
        }

        private int pop() {
            if (top <= 0) {
                return 0;
            }
            top--;
            return stack[top];
        }
    }

    /** Migrates the program of a state, site by site and in place. */
    private static final class Mover {
        private final Program replacement = new Program();
        /** Where the arguments of the site at hand begin, and behind them the end of the site. */
        private final int[] starts = new int[MOST_OLD_ARITY + 1];
        private final boolean[] effects = new boolean[MOST_OLD_ARITY];

        /** Treats the sites of the expression at a node; answers the index behind it afterwards. */
        private int treatFrom(State state, int node, int depth) {
            Program program = state.program;
            if (node >= program.size || depth >= MOST_NODES) {
                return program.size;
            }
            treatArguments(state, node, depth);
            if (program.kind[node] == OLD_CALL) {
                state.outcomes[replaceOrReason(state, node)]++;
            }
            return program.endOf(node);
        }

        private void treatArguments(State state, int node, int depth) {
            int arguments = state.program.argumentCount[node];
            int next = node + 1;
            for (int i = 0; i < arguments; i++) {
                next = treatFrom(state, next, depth + 1);
            }
        }

        private int replaceOrReason(State state, int site) {
            Program program = state.program;
            int function = program.number[site];
            if (program.argumentCount[site] != state.olds.arityOf(function)) {
                return OTHER_ARITY;
            }
            if (!state.keepsMeaning(function)) {
                return adaptOrReason(state, site, function);
            }
            findArguments(state, site);
            int used = state.usedEntries(function);
            int reason = effectReason(state.mappings, function, used, program.argumentCount[site]);
            if (reason != REPLACED) {
                return reason;
            }
            if (sizeAfterReplacing(state, site, function, used) > MOST_NODES) {
                return TOO_MANY_NODES;
            }
            replaceSite(state, site, function, used);
            return REPLACED;
        }

        private int adaptOrReason(State state, int site, int function) {
            if (state.canUseAdapter(function)) {
                state.program.kind[site] = ADAPTER_CALL;
                state.program.number[site] = state.provideAdapter(function);
                return REPLACED;
            }
            return state.mappings.targetOf(function) == NONE ? NO_MAPPING : NOT_FAITHFUL;
        }

        private void findArguments(State state, int site) {
            int arguments = Math.min(state.program.argumentCount[site], MOST_OLD_ARITY);
            starts[0] = site + 1;
            for (int i = 0; i < arguments; i++) {
                starts[i + 1] = state.program.endOf(starts[i]);
                effects[i] = state.hasEffect(starts[i], starts[i + 1]);
            }
        }

        private int effectReason(Mappings mappings, int function, int used, int arguments) {
            boolean isRepeated = false;
            boolean isLost = false;
            for (int source = 0; source < arguments && source < MOST_OLD_ARITY; source++) {
                int uses = countUses(mappings, function, used, source);
                isRepeated = isRepeated || effects[source] && uses > 1;
                isLost = isLost || effects[source] && uses == 0;
            }
            if (isRepeated) {
                return EFFECT_REPEATED;
            }
            if (isLost) {
                return EFFECT_LOST;
            }
            return reordersEffects(mappings, function, used) ? EFFECTS_REORDERED : REPLACED;
        }

        private static int countUses(Mappings mappings, int function, int used, int source) {
            int count = 0;
            for (int position = 0; position < used; position++) {
                if (mappings.sourceAt(function, position) == source) {
                    count++;
                }
            }
            return count;
        }

        private boolean reordersEffects(Mappings mappings, int function, int used) {
            int greatest = NONE;
            for (int position = 0; position < used; position++) {
                int source = mappings.sourceAt(function, position);
                if (isSource(source) && effects[source]) {
                    if (source < greatest) {
                        return true;
                    }
                    greatest = source;
                }
            }
            return false;
        }

        private int sizeAfterReplacing(State state, int site, int function, int used) {
            int size = state.program.size - (state.program.endOf(site) - site) + 1;
            for (int position = 0; position < used; position++) {
                int source = state.mappings.sourceAt(function, position);
                size += isSource(source) ? starts[source + 1] - starts[source] : 1;
            }
            return size;
        }

        private void replaceSite(State state, int site, int function, int used) {
            replacement.size = 0;
            replacement.add(NEW_CALL, state.mappings.targetOf(function), used);
            for (int position = 0; position < used; position++) {
                int source = state.mappings.sourceAt(function, position);
                if (isSource(source)) {
                    replacement.addNodes(state.program, starts[source], starts[source + 1]);
                } else {
                    replacement.add(NUMBER, state.mappings.constantAt(function, position), 0);
                }
            }
            state.program.replace(site, state.program.endOf(site), replacement);
        }
    }
}
