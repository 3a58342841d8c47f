import java.math.BigInteger;

/** The boundary cases of promises 22 to 24, sentence by sentence. */
public final class EdgesOfStateTest {
    private EdgesOfStateTest() {
    }

    public static void main(String[] args) throws ReflectiveOperationException {
        Edges.run(EdgesOfStateTest.class);
    }

    /** An object with four saved states, so that the next call does not change their number. */
    private static CallMigrator withFourSaved() {
        CallMigrator x = new CallMigrator();
        for (int i = 0; i < 4; i++) {
            x.allowAdapters(0);
        }
        return x;
    }

    @Sentence(promise = 22, says = "Restores the most recently saved state and removes it from the saved states.")
    static void undoRestoresTheMostRecent() {
        CallMigrator x = new CallMigrator();
        x.setOldTerm(0, 0, 1);
        x.setOldTerm(0, 0, 2);
        x.setOldTerm(0, 0, 3);
        Check.due("undo()", 2, x.undo());
        Check.due("setOldTerm(0, 0, 9)", 2, x.setOldTerm(0, 0, 9));
        Check.due("undo()", 2, x.undo());
        Check.due("undo()", 1, x.undo());
        Check.due("setOldTerm(0, 0, 9)", 1, x.setOldTerm(0, 0, 9));
        Check.due("undo()", 1, x.undo());
        Check.due("undo()", 0, x.undo());
        Check.due("setOldTerm(0, 0, 9)", 0, x.setOldTerm(0, 0, 9));
    }

    @Sentence(promise = 22, says = "Returns the number of saved states that remain")
    static void undoAnswersWhatRemains() {
        CallMigrator x = new CallMigrator();
        for (int saved = 1; saved <= 6; saved++) {
            for (int i = 0; i < saved; i++) {
                x.allowAdapters(1);
            }
            for (int remaining = Math.min(saved, 4) - 1; remaining >= 0; remaining--) {
                Check.due("undo() after " + saved + " calls", remaining, x.undo());
            }
        }
    }

    @Sentence(promise = 22, says = "NOTHING_SAVED if there is none")
    static void undoWithoutASavedState() {
        CallMigrator x = new CallMigrator();
        Edges.refused(x, "undo() of a new object", -5, x::undo);
        x.map(0, 0);
        Check.due("undo()", 0, x.undo());
        Edges.refused(x, "undo() of the last one", -5, x::undo);
        Edges.refused(x, "undo() again", -5, x::undo);
        Check.due("isFaithful(0)", -3, x.isFaithful(0));
        x.append('x');
        x.clearText();
        x.parse();
        x.setOld(6, 0, 0);
        Edges.refused(x, "undo() after calls that save nothing", -5, x::undo);
        x.map(0, 0);
        Check.due("undo() after a call that saves", 0, x.undo());
    }

    @Sentence(promise = 22, says = "Each successful call of a method whose description says \"undoable\" saves the state from "
        + "before the call, even if the call changes nothing")
    static void eachUndoableCallSaves() {
        for (int method = 0; method < 11; method++) {
            CallMigrator x = new CallMigrator();
            x.map(0, 0);
            x.append('0');
            long before = x.digest();
            useUndoable(x, method);
            Check.due("undo() after method " + method, 1, x.undo());
            Check.due("digest() after undo() of method " + method, before, x.digest());
        }
    }

    // None of these calls changes anything but unmap, which always removes a mapping.
    private static void useUndoable(CallMigrator x, int method) {
        switch (method) {
            case 0: Check.due("setOld(0, 1, 0)", 1, x.setOld(0, 1, 0)); break;
            case 1: Check.due("setNew(0, 1, 0)", 1, x.setNew(0, 1, 0)); break;
            case 2: Check.due("setOldTerm(0, 0, 0)", 0, x.setOldTerm(0, 0, 0)); break;
            case 3: Check.due("setNewTerm(0, 0, 0)", 0, x.setNewTerm(0, 0, 0)); break;
            case 4: Check.due("map(0, 0)", 1, x.map(0, 0)); break;
            case 5: Check.due("unmap(0)", 0, x.unmap(0)); break;
            case 6: Check.due("setSource(0, 0, 0)", 1, x.setSource(0, 0, 0)); break;
            case 7: Check.due("setConstant(0, 3, 0)", 1, x.setConstant(0, 3, 0)); break;
            case 8: Check.due("allowAdapters(0)", 0, x.allowAdapters(0)); break;
            case 9: Check.due("parse()", 1, x.parse()); break;
            default: Check.due("migrate()", 0, x.migrate()); break;
        }
    }

    @Sentence(promise = 22, says = "at most 4 states are saved, and the oldest is dropped first")
    static void fourSavedStates() {
        for (int calls = 3; calls <= 9; calls++) {
            CallMigrator x = new CallMigrator();
            for (int value = 1; value <= calls; value++) {
                x.setNewTerm(5, 3, value);
            }
            int states = Math.min(calls, 4);
            for (int remaining = states - 1; remaining >= 0; remaining--) {
                Check.due("undo() after " + calls + " calls", remaining, x.undo());
            }
            Edges.refused(x, "undo() after " + calls + " calls and " + states + " undos", -5, x::undo);
            Check.due("the term from before the oldest saved call of " + calls, calls - states, x.setNewTerm(5, 3, 0));
        }
    }

    @Sentence(promise = 22, says = "The saved state contains the functions, the adapters, the mappings, whether adapters are "
        + "allowed, the program and the reasons of the latest migration.")
    static void whatIsSaved() {
        CallMigrator x = new CallMigrator();
        x.setOld(0, 2, 1);
        x.setNew(0, 2, 0);
        x.map(0, 0);
        x.setConstant(0, 0, 31);
        x.allowAdapters(1);
        Check.parse(x, "a(b(1),2)");
        long before = x.digest();
        x.migrate();
        Check.dueProgram(x, "A(31,2)");
        Check.due("adapterOf(1)", 0, x.adapterOf(1));
        x.allowAdapters(0);
        x.unmap(0);
        x.setOld(0, 0, 0);
        for (int remaining = 3; remaining >= 0; remaining--) {
            Check.due("undo()", remaining, x.undo());
        }
        x.setOld(0, 2, 1);
        x.setOld(0, 2, 1);
        x.setOld(0, 2, 1);
        x.setOld(0, 2, 1);
        Check.due("digest() with as many saved states", before, x.digest());
        Check.due("migrate() with the template of then", 2, x.migrate());
        Check.dueProgram(x, "A(31,2)");
    }

    @Sentence(promise = 22, says = "the program and the reasons of the latest migration")
    static void theReasonsComeBack() {
        for (int reason = 1; reason <= 7; reason++) {
            CallMigrator x = new CallMigrator();
            leaveFor(x, reason);
            String want = "0".repeat(reason - 1) + "1" + "0".repeat(7 - reason);
            Check.dueLeft(x, want);
            Check.parse(x, "y");
            x.migrate();
            Check.dueLeft(x, "0000000");
            x.undo();
            Check.dueLeft(x, want);
            Check.dueProgram(x, "y");
        }
    }

    /** Leaves one site, of a with two arguments, for a reason. */
    private static void leaveFor(CallMigrator x, int reason) {
        x.setOld(0, 2, 0);
        x.setNew(0, 3, 0);
        x.setNew(5, 0, reason == 7 ? 0 : 1);
        if (reason != 2) {
            x.map(0, 0);
            x.setConstant(0, 2, 0);
        }
        switch (reason) {
            case 3: x.setNewTerm(0, -1, 1); break;
            case 4: x.setSource(0, 2, 1); break;
            case 5: x.setConstant(0, 1, 1); break;
            case 6: x.setSource(0, 0, 1); x.setSource(0, 1, 0); break;
            case 7: x.setSource(0, 2, 0); break;
            default: break;
        }
        Check.parse(x, "a(" + Edges.nested("B(", 14, "F()") + ",F())");
        x.setOld(0, reason == 1 ? 1 : 2, 0);
        x.migrate();
    }

    @Sentence(promise = 22, says = "The saved state contains the functions")
    static void undoLeavesTheTextAndTheCounters() {
        CallMigrator x = new CallMigrator();
        x.append('x');
        x.parse();
        x.append('y');
        x.append(128);
        x.unmap(0);
        Check.due("undo()", 0, x.undo());
        Check.dueProgram(x, "0");
        x.undo();
        Check.due("errorCount(-2)", 1, x.errorCount(-2));
        Check.due("errorCount(-3)", 1, x.errorCount(-3));
        Check.due("errorCount(-5)", 1, x.errorCount(-5));
        Check.due("parse() of the text of now", -11, x.parse());
        Check.due("clearText()", 2, x.clearText());
    }

    @Sentence(promise = 23, says = "Returns how often an error code has been returned.")
    static void eachErrorIsCounted() {
        CallMigrator x = new CallMigrator();
        for (int i = 1; i <= 120; i++) {
            x.append('a');
        }
        for (int i = 1; i <= 3; i++) {
            x.append('a');
            Check.due("errorCount(-4)", i, x.errorCount(-4));
            x.undo();
            Check.due("errorCount(-5)", i, x.errorCount(-5));
            x.isFaithful(0);
            Check.due("errorCount(-3)", i, x.errorCount(-3));
            x.nodes();
            x.textByte(9);
            Check.due("errorCount(-2)", i - 1, x.errorCount(-2));
            x.textByte(-2);
            Check.due("errorCount(-2)", i, x.errorCount(-2));
        }
    }

    @Sentence(promise = 23, says = "`code`: an error code, -5 to -2")
    static void errorCountCode() {
        CallMigrator x = new CallMigrator();
        Edges.refusedOutside(x, "errorCount(code)", -5, -2, x::errorCount);
        Edges.refused(x, "errorCount(0)", -2, () -> x.errorCount(0));
        Edges.refused(x, "errorCount(2)", -2, () -> x.errorCount(2));
        Edges.changesNothing(x, "errorCount(-5)", 0, () -> x.errorCount(-5));
        Edges.changesNothing(x, "errorCount(-2)", 6, () -> x.errorCount(-2));
    }

    @Sentence(promise = 23, says = "Returns the counter of the code")
    static void errorCountOfEachCode() {
        CallMigrator x = new CallMigrator();
        for (int code = -5; code <= -2; code++) {
            Check.due("errorCount(" + code + ") of a new object", 0, x.errorCount(code));
        }
        x.undo();
        Check.due("errorCount(-5)", 1, x.errorCount(-5));
        Check.due("errorCount(-4)", 0, x.errorCount(-4));
        x.adapterOf(0);
        x.unmap(0);
        Check.due("errorCount(-3)", 2, x.errorCount(-3));
        Check.due("errorCount(-2)", 0, x.errorCount(-2));
        for (int i = 0; i < 200; i++) {
            x.left(0);
        }
        Check.due("errorCount(-2)", 200, x.errorCount(-2));
        Check.due("errorCount(-5)", 1, x.errorCount(-5));
    }

    @Sentence(promise = 23, says = "OUT_OF_RANGE if code is out of range (this increments the counter of OUT_OF_RANGE)")
    static void errorCountRefused() {
        CallMigrator x = new CallMigrator();
        Check.due("errorCount(-1)", -2, x.errorCount(-1));
        Check.due("errorCount(-2)", 1, x.errorCount(-2));
        Check.due("errorCount(-6)", -2, x.errorCount(-6));
        Check.due("errorCount(-2)", 2, x.errorCount(-2));
        Check.due("errorCount(-2) again", 2, x.errorCount(-2));
    }

    /** A state in which each part could be harmed: a full text, saved states, a template, an adapter. */
    private static CallMigrator richState() {
        CallMigrator x = new CallMigrator();
        Edges.makeAdapters(x, 1);
        x.setNew(1, 2, 0);
        x.map(1, 1);
        x.setConstant(1, 1, 77);
        Check.parse(x, "b(c(x))");
        for (int length = 8; length <= 120; length++) {
            x.append('y');
        }
        return x;
    }

    @Sentence(promise = 23, says = "A call that returns an error code changes nothing except that it increments the counter of "
        + "that code.")
    static void refusedCallsChangeNothing() {
        CallMigrator x = richState();
        Edges.refused(x, "setOld(2, 4, 1)", -2, () -> x.setOld(2, 4, 1));
        Edges.refused(x, "setNew(1, 5, 1)", -2, () -> x.setNew(1, 5, 1));
        Edges.refused(x, "setOldTerm(1, 0, 100)", -2, () -> x.setOldTerm(1, 0, 100));
        Edges.refused(x, "setNewTerm(1, 0, 100)", -2, () -> x.setNewTerm(1, 0, 100));
        Edges.refused(x, "map(1, 6)", -2, () -> x.map(1, 6));
        Edges.refused(x, "unmap(6)", -2, () -> x.unmap(6));
        Edges.refused(x, "unmap(0)", -3, () -> x.unmap(0));
        Edges.refused(x, "setSource(1, 1, 3)", -2, () -> x.setSource(1, 1, 3));
        Edges.refused(x, "setSource(0, 1, 2)", -3, () -> x.setSource(0, 1, 2));
        Edges.refused(x, "setConstant(1, 1, 100)", -2, () -> x.setConstant(1, 1, 100));
        Edges.refused(x, "setConstant(0, 1, 9)", -3, () -> x.setConstant(0, 1, 9));
        Edges.refused(x, "isFaithful(6)", -2, () -> x.isFaithful(6));
        Edges.refused(x, "isFaithful(0)", -3, () -> x.isFaithful(0));
        Edges.refused(x, "allowAdapters(2)", -2, () -> x.allowAdapters(2));
        Edges.refused(x, "adapterOf(6)", -2, () -> x.adapterOf(6));
        Edges.refused(x, "adapterOf(1)", -3, () -> x.adapterOf(1));
        Edges.refused(x, "append(128)", -2, () -> x.append(128));
        Edges.refused(x, "append(0)", -4, () -> x.append(0));
        Edges.refused(x, "left(8)", -2, () -> x.left(8));
        Edges.refused(x, "value(1000, 0)", -2, () -> x.value(1000, 0));
        Edges.refused(x, "textByte(-2)", -2, () -> x.textByte(-2));
        Edges.refused(x, "errorCount(0)", -2, () -> x.errorCount(0));
        // What the digest does not tell: the template, the bytes of the text, the saved states.
        Check.due("parse()", -17, x.parse());
        Check.due("migrate()", 2, x.migrate());
        Check.dueProgram(x, "B(q(x),77)");
        for (int remaining = 3; remaining >= 0; remaining--) {
            Check.due("undo()", remaining, x.undo());
        }
        Edges.refused(x, "isFaithful(1) from before map(1, 1)", -3, () -> x.isFaithful(1));
        Edges.refused(x, "undo()", -5, x::undo);
    }

    @Sentence(promise = 24, says = "Returns a hash of the state.")
    static void theSameStateHasTheSameDigest() {
        CallMigrator x = new CallMigrator();
        CallMigrator y = new CallMigrator();
        x.setOld(0, 2, 1);
        x.setOldTerm(1, 1, 3);
        y.setOldTerm(1, 1, 3);
        y.setOld(0, 2, 1);
        Check.due("digest() after the same calls in another order", x.digest(), y.digest());
        Check.due("undo() after two calls of digest()", 1, x.undo());
        Check.due("whether the digest tells another state", 1, x.digest() != y.digest() ? 1 : 0);
        x.setOldTerm(1, 1, 3);
        Check.due("digest() of the state again", x.digest(), y.digest());
    }

    @Sentence(promise = 24, says = "Start with h = 2683 and, for each of the following values v, set h = 31 * h + v")
    static void theSumOfANewObject() {
        BigInteger h = BigInteger.valueOf(2683);
        int[] values = new int[112];
        for (int f = 0; f < 12; f++) {
            values[5 + 7 * f] = 1;
        }
        for (int f = 0; f < 6; f++) {
            values[90 + 2 * f] = -1;
        }
        values[102] = '0';
        for (int v : values) {
            h = h.multiply(BigInteger.valueOf(31)).add(BigInteger.valueOf(v));
        }
        Check.due("digest()", h.longValue(), new CallMigrator().digest());
    }

    @Sentence(promise = 24, says = "Returns the hash, with the overflow of long arithmetic ignored.")
    static void theOverflowIsIgnored() {
        CallMigrator x = new CallMigrator();
        long before = x.digest();
        Check.due("digest() again", before, x.digest());
        // A long text and large terms: the powers of 31 go far beyond a long.
        Check.parse(x, Edges.nested("f(", 29, "99"));
        for (int position = -1; position <= 3; position++) {
            x.setOldTerm(0, position, 99);
        }
        BigInteger h = BigInteger.valueOf(2683);
        String text = Edges.nested("f(", 29, "99");
        int[] values = new int[111 + text.length()];
        values[4] = text.length();
        for (int f = 0; f < 12; f++) {
            values[5 + 7 * f] = 1;
        }
        for (int i = 7; i <= 11; i++) {
            values[i] = 99;
        }
        for (int f = 0; f < 6; f++) {
            values[90 + 2 * f] = -1;
        }
        for (int i = 0; i < text.length(); i++) {
            values[102 + i] = text.charAt(i);
        }
        values[102 + text.length()] = 29;
        values[110 + text.length()] = 4;
        for (int v : values) {
            h = h.multiply(BigInteger.valueOf(31)).add(BigInteger.valueOf(v));
        }
        Check.due("digest()", h.longValue(), x.digest());
    }

    @Sentence(promise = 24, says = "the counters of the codes -2, -3, -4, -5")
    static void theCountersInTheDigest() {
        CallMigrator x = new CallMigrator();
        long before = x.digest();
        x.left(0);
        x.left(0);
        x.unmap(0);
        x.undo();
        for (int i = 0; i < 123; i++) {
            x.append('x');
        }
        x.clearText();
        long want = before + 2 * Edges.weight(x, 0) + Edges.weight(x, 1) + 3 * Edges.weight(x, 2) + Edges.weight(x, 3);
        Check.due("digest()", want, x.digest());
    }

    @Sentence(promise = 24, says = "the length of the input text")
    static void theLengthOfTheTextInTheDigest() {
        CallMigrator x = new CallMigrator();
        long empty = x.digest();
        x.append('x');
        Check.due("digest() with one byte", empty + Edges.weight(x, 4), x.digest());
        for (int i = 1; i < 120; i++) {
            x.append(i);
        }
        Check.due("digest() with 120 bytes", empty + 120 * Edges.weight(x, 4), x.digest());
        x.clearText();
        Check.due("digest() after clearText()", empty, x.digest());
    }

    @Sentence(promise = 24, says = "for each old function, then for each new function, its arity, effect flag, constant term and "
        + "four coefficients")
    static void theFunctionsInTheDigest() {
        for (int f = 0; f < 6; f++) {
            CallMigrator x = withFourSaved();
            long want = x.digest();
            int old = 5 + 7 * f;
            int next = old + 42;
            x.setOld(f, 3, 1);
            want += 2 * Edges.weight(x, old) + Edges.weight(x, old + 1);
            Check.due("digest() after setOld(" + f + ", 3, 1)", want, x.digest());
            x.setNew(f, 0, 1);
            want += -Edges.weight(x, next) + Edges.weight(x, next + 1);
            Check.due("digest() after setNew(" + f + ", 0, 1)", want, x.digest());
            for (int position = -1; position <= 3; position++) {
                x.setOldTerm(f, position, 99);
                want += 99 * Edges.weight(x, old + 3 + position);
                Check.due("digest() after setOldTerm(" + f + ", " + position + ", 99)", want, x.digest());
                x.setNewTerm(f, position, 98);
                want += 98 * Edges.weight(x, next + 3 + position);
                Check.due("digest() after setNewTerm(" + f + ", " + position + ", 98)", want, x.digest());
            }
        }
    }

    @Sentence(promise = 24, says = "for each old function 2 if it has a faithful mapping, 1 if it has one that is not faithful, "
        + "0 if it has none, and then the number of its adapter (NONE if it has none)")
    static void theMappingsInTheDigest() {
        for (int f = 0; f < 6; f++) {
            CallMigrator x = withFourSaved();
            long none = x.digest();
            x.map(f, 5 - f);
            Check.due("digest() with a faithful mapping", none + 2 * Edges.weight(x, 89 + 2 * f), x.digest());
            x.setSource(f, 0, 2);
            Check.due("digest() with one that is not", none + Edges.weight(x, 89 + 2 * f), x.digest());
            x.unmap(f);
            Check.due("digest() without a mapping", none, x.digest());
        }
        CallMigrator x = new CallMigrator();
        Edges.makeAdapters(x, 4);
        x.allowAdapters(0);
        Check.parse(x, "0");
        Check.parse(x, "0");
        long want = withFourSaved().digest() + Edges.weight(x, 4);
        for (int f = 0; f < 4; f++) {
            want += (f + 1) * Edges.weight(x, 90 + 2 * f);
        }
        Check.due("digest() with four adapters", want, x.digest());
    }

    @Sentence(promise = 24, says = "whether adapters are allowed (1 or 0)")
    static void theSettingInTheDigest() {
        CallMigrator x = withFourSaved();
        long before = x.digest();
        x.allowAdapters(1);
        Check.due("digest() after allowAdapters(1)", before + Edges.weight(x, 101), x.digest());
        x.allowAdapters(0);
        Check.due("digest() after allowAdapters(0)", before, x.digest());
    }

    @Sentence(promise = 24, says = "the bytes of the program's text")
    static void theProgramInTheDigest() {
        CallMigrator x = withFourSaved();
        Check.parse(x, "0");
        long zero = x.digest();
        Check.parse(x, "y");
        Check.due("digest() of y", zero + ('y' - '0') * Edges.weight(x, 102), x.digest());
        Check.parse(x, "09");
        long longer = Edges.weight(x, 4);
        Check.due("digest() of 09", zero + ('9' - '0') * Edges.weight(x, 102) + longer, x.digest());
        Check.parse(x, "A(x)");
        long four = x.digest();
        Check.parse(x, "B(y)");
        Check.due("digest() of B(y)", four + Edges.weight(x, 102) + Edges.weight(x, 104), x.digest());
    }

    @Sentence(promise = 24, says = "the number of sites; the numbers of sites left for the reasons 1 to 7")
    static void theSitesInTheDigest() {
        CallMigrator x = withFourSaved();
        Check.parse(x, "A(A(x))");
        long none = x.digest();
        Check.parse(x, "a(A(x))");
        int sites = 102 + x.textByte(-1);
        long one = none + ('a' - 'A') * Edges.weight(x, 102) + Edges.weight(x, sites);
        Check.due("digest() of one site", one, x.digest());
        x.migrate();
        Check.due("digest() with reason 2", one + Edges.weight(x, sites + 2), x.digest());
        x.setOld(0, 0, 0);
        x.migrate();
        x.setOld(0, 1, 0);
        Check.due("digest() with reason 1", one + Edges.weight(x, sites + 1), x.digest());
        CallMigrator y = withFourSaved();
        String large = Edges.nested("B(", 28, "a(x)");
        Check.parse(y, large);
        y.setNew(0, 2, 0);
        y.map(0, 0);
        y.setSource(0, 1, 0);
        long before = y.digest();
        y.migrate();
        Check.due("digest() with reason 7", before + Edges.weight(y, 109 + y.textByte(-1)), y.digest());
    }

    @Sentence(promise = 24, says = "the number of saved states")
    static void theSavedStatesInTheDigest() {
        CallMigrator x = new CallMigrator();
        long none = x.digest();
        for (int calls = 1; calls <= 6; calls++) {
            x.allowAdapters(0);
            Check.due("digest() after " + calls + " calls", none + Math.min(calls, 4), x.digest());
        }
        for (int remaining = 3; remaining >= 0; remaining--) {
            x.undo();
            Check.due("digest() with " + remaining + " saved states", none + remaining, x.digest());
        }
    }
}
