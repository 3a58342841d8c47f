import java.lang.reflect.Method;
import java.util.function.IntSupplier;
import java.util.function.IntUnaryOperator;

/** What the tests of boundary cases share: running them by their sentences, and refused calls. */
final class Edges {
    static final Class<?>[] TESTS = {
        EdgesOfFunctionsTest.class, EdgesOfMappingsTest.class, EdgesOfTextTest.class,
        EdgesOfMigrationTest.class, EdgesOfReadingTest.class, EdgesOfStateTest.class};

    private Edges() {
    }

    /** Runs each test of a class that names a sentence. */
    static void run(Class<?> tests) throws ReflectiveOperationException {
        for (Method test : tests.getDeclaredMethods()) {
            Sentence sentence = test.getAnnotation(Sentence.class);
            if (sentence != null) {
                Check.about("promise " + sentence.promise() + ", \"" + sentence.says() + "\": ");
                int before = Check.made();
                test.invoke(null);
                Check.due("whether " + test.getName() + " checks anything", 1, Check.made() > before ? 1 : 0);
            }
        }
        Check.finish();
    }

    /** A refused call changes nothing but the counter of its code, which goes up by one. */
    static void refused(CallMigrator x, String call, int code, IntSupplier action) {
        long wantedDigest = x.digest() + weight(x, CallMigrator.OUT_OF_RANGE - code);
        int wantedCount = x.errorCount(code) + 1;
        Check.due(call, code, action.getAsInt());
        Check.due("the counter of " + code + " after " + call, wantedCount, x.errorCount(code));
        Check.due("digest() after " + call, wantedDigest, x.digest());
    }

    /**
     * What one more in the value at an index adds to the digest, which is a sum in powers of 31: of
     * 102 values, the bytes of the program's text, and nine values more.
     */
    static long weight(CallMigrator x, int index) {
        long weight = 1;
        for (int behind = 110 + x.textByte(-1) - index; behind > 0; behind--) {
            weight *= 31;
        }
        return weight;
    }

    /** The numbers next to a range and the ones farthest from it are refused with OUT_OF_RANGE. */
    static void refusedOutside(CallMigrator x, String call, int low, int high, IntUnaryOperator action) {
        int[] outside = {low - 1, high + 1, Integer.MIN_VALUE, Integer.MAX_VALUE};
        for (int number : outside) {
            refused(x, call + " with " + number, CallMigrator.OUT_OF_RANGE, () -> action.applyAsInt(number));
        }
    }

    /** The call saves a state each time, also the second time, when it changes nothing. */
    static void undoable(CallMigrator x, String call, IntSupplier action) {
        long before = x.digest();
        action.getAsInt();
        long between = x.digest();
        Check.due("whether " + call + " shows in the digest", 1, before != between ? 1 : 0);
        action.getAsInt();
        x.undo();
        Check.due("digest() after undo() of the second " + call, between, x.digest());
        x.undo();
        Check.due("digest() after undo() of the first " + call, before, x.digest());
    }

    /** The call answers without an error, and neither changes nor saves anything. */
    static void changesNothing(CallMigrator x, String call, int want, IntSupplier action) {
        long before = x.digest();
        Check.due(call, want, action.getAsInt());
        Check.due("digest() after " + call, before, x.digest());
    }

    /** Makes a number of adapters, p onward, for the old functions a onward, each with arity 1. */
    static void makeAdapters(CallMigrator x, int count) {
        StringBuilder text = new StringBuilder("x");
        for (int f = 0; f < count; f++) {
            text.insert(0, (char) ('a' + f) + "(").append(')');
        }
        x.allowAdapters(1);
        Check.due("parse() of " + text, count + 1, Check.parse(x, text.toString()));
        Check.due("migrate() of " + text, count, x.migrate());
    }

    static String nested(String opening, int times, String inside) {
        return opening.repeat(times) + inside + ")".repeat(times);
    }
}
