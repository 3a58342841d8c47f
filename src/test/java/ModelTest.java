import java.util.Random;

/**
 * Many runs of calls, chosen by a random source with fixed seeds, on CallMigrator and on the model;
 * each answer and, after each call, the digest must be the same.
 */
public final class ModelTest {
    private static final int RUNS = 6000;
    private static final int CALLS = 512;
    private static final int CALLS_OF_A_STEP = 16;
    private static final int CALLS_OF_A_TEXT = 132;

    private final Random random;
    private final CallMigrator real = new CallMigrator();
    private final Model model = new Model();
    private final boolean smallTerms;
    private final int effectShare;
    private int calls = 0;

    private static final long[] LEFT_SEEN = new long[8];
    private static long replacedSeen = 0;
    private static long parsedSeen = 0;

    private ModelTest(long seed) {
        random = new Random(seed);
        smallTerms = random.nextInt(4) != 0;
        effectShare = random.nextInt(6);
    }

    public static void main(String[] args) {
        for (int seed = 0; seed < RUNS; seed++) {
            new ModelTest(seed).run(seed);
        }
        for (int reason = 1; reason <= 7; reason++) {
            Check.due("whether reason " + reason + " came often enough", 1, LEFT_SEEN[reason] > 300 ? 1 : 0);
        }
        Check.due("whether sites were replaced often enough", 1, replacedSeen > 3000 ? 1 : 0);
        Check.due("whether texts were parsed often enough", 1, parsedSeen > 3000 ? 1 : 0);
        Check.finish();
    }

    private void run(long seed) {
        if (random.nextBoolean()) {
            prepare(seed);
        }
        while (calls + CALLS_OF_A_STEP <= CALLS) {
            step(seed);
        }
    }

    /** Mappings that are faithful, because no term counts, and that turn and repeat arguments. */
    private void prepare(long seed) {
        for (int f = 0; f < 3; f++) {
            int arity = 1 + random.nextInt(3);
            int newArity = Math.min(4, arity + random.nextInt(2));
            same(seed, "setOld", model.setOld(f, arity, 0), real.setOld(f, arity, 0));
            same(seed, "setNew", model.setNew(f, newArity, 0), real.setNew(f, newArity, 0));
            same(seed, "map", model.map(f, f), real.map(f, f));
            for (int position = 0; position < newArity; position++) {
                int source = random.nextInt(3) == 0 ? random.nextInt(arity) : Math.max(0, arity - 1 - position);
                same(seed, "setSource", model.setSource(f, position, source), real.setSource(f, position, source));
            }
        }
        same(seed, "setNew", model.setNew(3, 0, 1), real.setNew(3, 0, 1));
    }

    private void answer(long seed, String call, long want, long got) {
        calls++;
        Check.due("seed " + seed + ", call " + calls + ": " + call, want, got);
    }

    private void same(long seed, String call, long want, long got) {
        answer(seed, call, want, got);
        answer(seed, "digest() after " + call, model.digest(), real.digest());
    }

    /** A number of a range; once in a while one just outside it, or far outside. */
    private int pick(int low, int high) {
        switch (random.nextInt(240)) {
            case 0: return low - 1;
            case 1: return high + 1;
            case 2: return random.nextBoolean() ? Integer.MIN_VALUE : Integer.MAX_VALUE;
            case 3: return random.nextInt();
            default: return low + random.nextInt(high - low + 1);
        }
    }

    private int pickFunction() {
        return random.nextInt(3) == 0 ? pick(0, 5) : pick(0, 2);
    }

    private int pickEffect() {
        return random.nextInt(40) == 0 ? pick(0, 1) : random.nextInt(6) < effectShare ? 1 : 0;
    }

    private int pickTerm() {
        if (!smallTerms) {
            return pick(0, 99);
        }
        return random.nextInt(12) == 0 ? pick(0, 99) : random.nextInt(4) == 0 ? 1 : 0;
    }

    private void step(long seed) {
        switch (random.nextInt(20)) {
            case 0: case 1: stepShape(seed); break;
            case 2: case 3: stepTerm(seed); break;
            case 4: case 5: case 6: stepMapping(seed); break;
            case 7: case 8: case 9: stepEntry(seed); break;
            case 10: case 11: stepTextOrRead(seed); break;
            case 12: case 13: case 14: stepMigrate(seed); break;
            case 15: stepAdapters(seed); break;
            case 16: stepUndo(seed); break;
            default: stepRead(seed); break;
        }
    }

    private void stepShape(long seed) {
        int f = pickFunction();
        int effect = pickEffect();
        if (random.nextBoolean()) {
            int arity = pick(0, 3);
            same(seed, "setOld(" + f + ", " + arity + ", " + effect + ")",
                model.setOld(f, arity, effect), real.setOld(f, arity, effect));
        } else {
            int arity = pick(0, 4);
            same(seed, "setNew(" + f + ", " + arity + ", " + effect + ")",
                model.setNew(f, arity, effect), real.setNew(f, arity, effect));
        }
    }

    private void stepTerm(long seed) {
        int f = pickFunction();
        int position = pick(-1, 3);
        int value = pickTerm();
        String arguments = "(" + f + ", " + position + ", " + value + ")";
        if (random.nextBoolean()) {
            same(seed, "setOldTerm" + arguments,
                model.setOldTerm(f, position, value), real.setOldTerm(f, position, value));
        } else {
            same(seed, "setNewTerm" + arguments,
                model.setNewTerm(f, position, value), real.setNewTerm(f, position, value));
        }
    }

    private void stepMapping(long seed) {
        int f = pickFunction();
        int g = pickFunction();
        if (random.nextInt(8) == 0) {
            same(seed, "unmap(" + f + ")", model.unmap(f), real.unmap(f));
        } else {
            same(seed, "map(" + f + ", " + g + ")", model.map(f, g), real.map(f, g));
        }
    }

    private void stepEntry(long seed) {
        int f = pickFunction();
        int position = pick(0, 3);
        if (random.nextInt(4) == 0) {
            int value = pick(0, 99);
            same(seed, "setConstant(" + f + ", " + position + ", " + value + ")",
                model.setConstant(f, position, value), real.setConstant(f, position, value));
        } else {
            int source = pick(0, 2);
            same(seed, "setSource(" + f + ", " + position + ", " + source + ")",
                model.setSource(f, position, source), real.setSource(f, position, source));
        }
    }

    private void stepMigrate(long seed) {
        int want = model.migrate();
        same(seed, "migrate()", want, real.migrate());
        replacedSeen += Math.max(want, 0);
        for (int reason = 1; reason <= 7; reason++) {
            LEFT_SEEN[reason] += Math.max(model.left(reason), 0);
            answer(seed, "left(" + reason + ")", model.left(reason), real.left(reason));
        }
    }

    private void stepAdapters(long seed) {
        if (random.nextInt(3) == 0) {
            int allowed = random.nextInt(3) == 0 ? pick(0, 1) : 0;
            same(seed, "allowAdapters(" + allowed + ")",
                model.allowAdapters(allowed), real.allowAdapters(allowed));
        } else {
            int f = pickFunction();
            same(seed, "adapterOf(" + f + ")", model.adapterOf(f), real.adapterOf(f));
        }
    }

    private void stepUndo(long seed) {
        for (int n = random.nextInt(6); n > 0; n--) {
            same(seed, "undo()", model.undo(), real.undo());
        }
    }

    private void stepRead(long seed) {
        switch (random.nextInt(7)) {
            case 0: same(seed, "sites()", model.sites(), real.sites()); break;
            case 1: same(seed, "nodes()", model.nodes(), real.nodes()); break;
            case 2: readText(seed); break;
            case 3: readErrors(seed); break;
            case 4: readLeft(seed); break;
            case 5: readFaithful(seed); break;
            default: readValue(seed); break;
        }
    }

    private void readText(long seed) {
        int index = pick(-1, model.programText().length());
        same(seed, "textByte(" + index + ")", model.textByte(index), real.textByte(index));
    }

    private void readErrors(long seed) {
        int code = pick(-5, -2);
        same(seed, "errorCount(" + code + ")", model.errorCount(code), real.errorCount(code));
    }

    private void readLeft(long seed) {
        int reason = pick(1, 7);
        same(seed, "left(" + reason + ")", model.left(reason), real.left(reason));
    }

    private void readFaithful(long seed) {
        int f = pickFunction();
        same(seed, "isFaithful(" + f + ")", model.isFaithful(f), real.isFaithful(f));
    }

    private void readValue(long seed) {
        int x = pick(0, 999);
        int y = pick(0, 999);
        same(seed, "value(" + x + ", " + y + ")", model.value(x, y), real.value(x, y));
    }

    private void stepTextOrRead(long seed) {
        if (calls + CALLS_OF_A_TEXT <= CALLS) {
            stepText(seed);
        } else {
            stepRead(seed);
        }
    }

    private void stepText(long seed) {
        if (random.nextInt(5) != 0) {
            same(seed, "clearText()", model.clearText(), real.clearText());
        }
        StringBuilder text = new StringBuilder();
        write(text, 1 + random.nextInt(random.nextInt(8) == 0 ? 45 : 12));
        if (random.nextInt(4) == 0 && text.length() > 0) {
            spoil(text);
        }
        for (int i = 0; i < text.length() && i < 125; i++) {
            int value = random.nextInt(2000) == 0 ? pick(0, 127) : text.charAt(i);
            answer(seed, "append(" + value + ")", model.append(value), real.append(value));
        }
        Check.due("whether the calls are within the limit", 1, calls + 2 <= CALLS ? 1 : 0);
        int want = model.parse();
        same(seed, "parse()", want, real.parse());
        parsedSeen += want > 0 ? 1 : 0;
    }

    /** Writes an expression of about a number of nodes; answers how many it used. */
    private int write(StringBuilder text, int nodes) {
        if (nodes <= 1 && random.nextInt(4) != 0) {
            text.append(leaf());
            return 1;
        }
        String letters = "abcabcabcdefABCDEF" + "pqrs".substring(0, model.adapterCount());
        char sign = letters.charAt(random.nextInt(letters.length()));
        int arity = model.arityOf(sign);
        text.append(sign).append('(');
        int used = 1;
        for (int i = 0; i < arity; i++) {
            text.append(i > 0 ? "," : "");
            int rest = Math.max(0, nodes - used);
            used += write(text, i == arity - 1 ? rest : random.nextInt(rest + 1));
        }
        text.append(')');
        return used;
    }

    private String leaf() {
        if (effectShare > 1 && model.arityOf('D') == 0 && random.nextBoolean()) {
            return "D()";
        }
        switch (random.nextInt(4)) {
            case 0: return "x";
            case 1: return "y";
            case 2: return Integer.toString(random.nextInt(10));
            default: return "" + random.nextInt(10) + random.nextInt(10);
        }
    }

    private void spoil(StringBuilder text) {
        int at = random.nextInt(text.length());
        String signs = "0123456789xyzabcdefgABCDEFGpqrst(),() ";
        switch (random.nextInt(4)) {
            case 0: text.deleteCharAt(at); break;
            case 1: text.setLength(at); break;
            case 2: text.setCharAt(at, signs.charAt(random.nextInt(signs.length()))); break;
            default: text.insert(at, signs.charAt(random.nextInt(signs.length()))); break;
        }
    }
}
