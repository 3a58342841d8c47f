/** The boundary cases of promises 6 to 12, sentence by sentence. */
public final class EdgesOfMappingsTest {
    private EdgesOfMappingsTest() {
    }

    public static void main(String[] args) throws ReflectiveOperationException {
        Edges.run(EdgesOfMappingsTest.class);
    }

    /** What a program becomes; the mappings at hand are looked at through it. */
    private static void dueMoved(CallMigrator x, String text, String want) {
        Check.parse(x, text);
        x.migrate();
        Check.dueProgram(x, want);
    }

    @Sentence(promise = 6, says = "Gives an old function a mapping to a new function.")
    static void mapGivesOneFunctionAMapping() {
        CallMigrator x = new CallMigrator();
        Check.due("map(3, 4)", 1, x.map(3, 4));
        for (int f = 0; f < 6; f++) {
            Check.due("isFaithful(" + f + ")", f == 3 ? 1 : -3, x.isFaithful(f));
        }
        dueMoved(x, "d(e(x))", "E(e(x))");
    }

    @Sentence(promise = 6, says = "Each old function may have a mapping: a new function and a template.")
    static void eachFunctionHasItsOwnMapping() {
        CallMigrator x = new CallMigrator();
        for (int f = 0; f < 6; f++) {
            Check.due("map(" + f + ", " + (5 - f) + ")", 1, x.map(f, 5 - f));
        }
        x.setConstant(2, 0, 42);
        dueMoved(x, "f(e(d(a(b(y)))))", "A(B(C(F(E(y)))))");
        dueMoved(x, "f(e(d(c(b(y)))))", "A(B(C(D(42))))");
        for (int f = 0; f < 6; f++) {
            Check.due("unmap(" + f + ")", 5 - f, x.unmap(f));
        }
    }

    @Sentence(promise = 6, says = "a new function and a template")
    static void theTemplatesOfNeighboursAreApart() {
        CallMigrator x = new CallMigrator();
        x.setNew(0, 4, 0);
        for (int f = 1; f <= 3; f++) {
            x.setOld(f, 3, 0);
            x.map(f, 0);
            x.setSource(f, 0, 2);
            x.setSource(f, 3, 1);
        }
        x.unmap(2);
        x.map(2, 0);
        dueMoved(x, "b(7,8,9)", "A(9,8,9,8)");
        dueMoved(x, "c(7,8,9)", "A(7,8,9,0)");
        dueMoved(x, "d(7,8,9)", "A(9,8,9,8)");
        // The last entry of one template has no say in the next one.
        x.setOldTerm(4, -1, 3);
        x.setNewTerm(4, -1, 3);
        Check.due("map(4, 4)", 1, x.map(4, 4));
        x.setSource(3, 3, 0);
        Check.due("isFaithful(4)", 1, x.isFaithful(4));
        x.setSource(3, 3, 2);
        Check.due("isFaithful(4)", 1, x.isFaithful(4));
        x.setConstant(3, 3, 5);
        Check.due("isFaithful(4)", 1, x.isFaithful(4));
    }

    @Sentence(promise = 6, says = "If the old function has no mapping yet, the entries of the template become "
        + "the sources 0, 1, 2 and the constant 0")
    static void mapGivesTheFirstTemplate() {
        CallMigrator x = new CallMigrator();
        x.setOld(5, 3, 0);
        x.setNew(0, 4, 0);
        x.map(5, 0);
        dueMoved(x, "f(7,8,9)", "A(7,8,9,0)");
        x.setConstant(5, 0, 1);
        x.setSource(5, 3, 2);
        dueMoved(x, "f(7,8,9)", "A(1,8,9,9)");
        x.unmap(5);
        x.map(5, 0);
        dueMoved(x, "f(7,8,9)", "A(7,8,9,0)");
    }

    @Sentence(promise = 6, says = "otherwise the template stays")
    static void mapKeepsTheTemplate() {
        CallMigrator x = new CallMigrator();
        x.setOld(0, 3, 0);
        x.setNew(0, 4, 0);
        x.setNew(5, 4, 0);
        x.map(0, 0);
        x.setSource(0, 0, 2);
        x.setConstant(0, 1, 99);
        x.setSource(0, 2, 0);
        x.setSource(0, 3, 1);
        Check.due("map(0, 5)", 1, x.map(0, 5));
        dueMoved(x, "a(7,8,9)", "F(9,99,7,8)");
        Check.due("map(0, 5) to the function that it has", 1, x.map(0, 5));
        dueMoved(x, "a(7,8,9)", "F(9,99,7,8)");
    }

    @Sentence(promise = 6, says = "`oldFunction`: 0 to 5")
    static void mapOldFunction() {
        CallMigrator x = new CallMigrator();
        Edges.refusedOutside(x, "map(oldFunction, 0)", 0, 5, f -> x.map(f, 0));
        Check.due("map(0, 0)", 1, x.map(0, 0));
        Check.due("map(5, 0)", 1, x.map(5, 0));
        dueMoved(x, "a(f(x))", "A(A(x))");
    }

    @Sentence(promise = 6, says = "`newFunction`: 0 to 5")
    static void mapNewFunction() {
        CallMigrator x = new CallMigrator();
        Edges.refusedOutside(x, "map(0, newFunction)", 0, 5, f -> x.map(0, f));
        Check.due("map(0, 5)", 1, x.map(0, 5));
        dueMoved(x, "a(x)", "F(x)");
        Check.due("map(0, 0)", 1, x.map(0, 0));
        dueMoved(x, "a(x)", "A(x)");
    }

    @Sentence(promise = 6, says = "Returns 1 if the mapping is faithful now, 0 if it is not")
    static void mapAnswersFaithfulness() {
        CallMigrator x = new CallMigrator();
        x.setNewTerm(1, -1, 1);
        Check.due("map(0, 0)", 1, x.map(0, 0));
        Check.due("map(0, 1)", 0, x.map(0, 1));
        Check.due("map(0, 2)", 1, x.map(0, 2));
        x.setConstant(0, 0, 5);
        Check.due("map(0, 3)", 1, x.map(0, 3));
        x.setNewTerm(4, 0, 1);
        Check.due("map(0, 4)", 0, x.map(0, 4));
    }

    @Sentence(promise = 6, says = "OUT_OF_RANGE if an argument is out of range")
    static void mapRefused() {
        CallMigrator x = new CallMigrator();
        Edges.refused(x, "map(-1, -1)", -2, () -> x.map(-1, -1));
        Edges.refused(x, "map(6, 5)", -2, () -> x.map(6, 5));
        Edges.refused(x, "map(5, 6)", -2, () -> x.map(5, 6));
        Check.due("isFaithful(5)", -3, x.isFaithful(5));
        x.map(5, 3);
        Edges.refused(x, "map(5, 6) of a mapping", -2, () -> x.map(5, 6));
        Check.due("unmap(5)", 3, x.unmap(5));
    }

    @Sentence(promise = 6, says = "Undoable.")
    static void mapUndoable() {
        CallMigrator x = new CallMigrator();
        Edges.undoable(x, "map(0, 5)", () -> x.map(0, 5));
        Check.due("isFaithful(0)", -3, x.isFaithful(0));
        x.map(0, 1);
        x.map(0, 5);
        Check.due("undo()", 1, x.undo());
        Check.due("unmap(0)", 1, x.unmap(0));
        x.map(5, 1);
        x.map(5, 2);
        x.undo();
        Check.due("unmap(5)", 1, x.unmap(5));
    }

    @Sentence(promise = 6, says = "The template has one entry for each of the positions 0 to 3; an entry is a "
        + "source from 0 to 2 (the argument at that position of the old call) or a constant (a number from 0 to 99).")
    static void entriesOfTheTemplate() {
        CallMigrator x = new CallMigrator();
        x.setOld(0, 3, 0);
        x.setNew(0, 4, 0);
        x.map(0, 0);
        x.setConstant(0, 0, 0);
        x.setConstant(0, 1, 99);
        x.setSource(0, 2, 2);
        x.setSource(0, 3, 0);
        dueMoved(x, "a(x,y,5)", "A(0,99,5,x)");
        x.setSource(0, 0, 1);
        x.setConstant(0, 3, 10);
        dueMoved(x, "a(x,y,5)", "A(y,99,5,10)");
    }

    @Sentence(promise = 6, says = "Only the first entries are used, as many as the new function has parameters.")
    static void onlyTheFirstEntriesAreUsed() {
        CallMigrator x = new CallMigrator();
        x.setOld(0, 3, 0);
        x.map(0, 0);
        String[] want = {"A()", "A(7)", "A(7,8)", "A(7,8,9)", "A(7,8,9,0)"};
        for (int arity = 0; arity <= 4; arity++) {
            x.setNew(0, arity, 0);
            dueMoved(x, "a(7,8,9)", want[arity]);
        }
        // An entry behind the used ones counts neither as a source nor with its coefficient.
        x.setOld(0, 1, 0);
        x.setNew(0, 1, 0);
        x.setNewTerm(0, 1, 99);
        Check.due("setSource(0, 1, 2)", 1, x.setSource(0, 1, 2));
        Check.due("setSource(0, 1, 0)", 1, x.setSource(0, 1, 0));
        Check.due("setConstant(0, 1, 1)", 1, x.setConstant(0, 1, 1));
        x.setNew(0, 2, 0);
        Check.due("isFaithful(0) with the entry used", 0, x.isFaithful(0));
    }

    @Sentence(promise = 6, says = "A mapping is well-formed if each used entry that is a source is less than the "
        + "arity of the old function.")
    static void wellFormed() {
        CallMigrator x = new CallMigrator();
        x.map(0, 0);
        for (int arity = 0; arity <= 3; arity++) {
            x.setOld(0, arity, 0);
            for (int source = 0; source <= 2; source++) {
                int want = source < arity ? 1 : 0;
                Check.due("setSource(0, 0, " + source + ") with arity " + arity, want, x.setSource(0, 0, source));
            }
        }
        x.setOld(0, 0, 0);
        Check.due("setConstant(0, 0, 99) with arity 0", 1, x.setConstant(0, 0, 99));
        x.setOld(0, 2, 0);
        x.setNew(0, 4, 0);
        x.setConstant(0, 2, 0);
        Check.due("setSource(0, 3, 2), the last entry", 0, x.setSource(0, 3, 2));
        Check.due("setSource(0, 3, 1), the last entry", 1, x.setSource(0, 3, 1));
    }

    @Sentence(promise = 6, says = "the constant term of the old function equals the constant term of the new one "
        + "plus the sum of coefficient times constant over the used entries that are constants")
    static void constantsModulo1000() {
        CallMigrator x = new CallMigrator();
        x.setOld(0, 0, 0);
        x.setNew(0, 4, 0);
        x.map(0, 0);
        for (int position = 0; position <= 3; position++) {
            x.setConstant(0, position, 0);
        }
        Check.due("isFaithful(0), 0 is 0", 1, x.isFaithful(0));
        x.setNewTerm(0, 0, 10);
        Check.due("setConstant(0, 0, 10), 100 is not 0", 0, x.setConstant(0, 0, 10));
        Check.due("setConstant(0, 0, 99), 990 is not 0", 0, x.setConstant(0, 0, 99));
        x.setNewTerm(0, -1, 9);
        Check.due("isFaithful(0), 999 is not 0", 0, x.isFaithful(0));
        x.setNewTerm(0, -1, 10);
        Check.due("isFaithful(0), 1000 is 0", 1, x.isFaithful(0));
        x.setNewTerm(0, -1, 11);
        Check.due("isFaithful(0), 1001 is not 0", 0, x.isFaithful(0));
        x.setOldTerm(0, -1, 1);
        Check.due("isFaithful(0), 1001 is 1", 1, x.isFaithful(0));
        x.setOldTerm(0, -1, 99);
        x.setNewTerm(0, -1, 99);
        Check.due("isFaithful(0), 1089 is not 99", 0, x.isFaithful(0));
        Check.due("setConstant(0, 0, 0), 99 is 99", 1, x.setConstant(0, 0, 0));
        for (int position = 0; position <= 3; position++) {
            x.setNewTerm(0, position, 99);
            x.setConstant(0, position, position == 3 ? 97 : 99);
        }
        Check.due("isFaithful(0), 39105 is not 99", 0, x.isFaithful(0));
        x.setNewTerm(0, -1, 93);
        Check.due("isFaithful(0), 39099 is 99", 1, x.isFaithful(0));
    }

    @Sentence(promise = 6, says = "the coefficient of each parameter of the old function equals the sum of the "
        + "coefficients of the positions whose used entries are that source")
    static void coefficientsOfEachParameter() {
        CallMigrator x = new CallMigrator();
        x.setOld(0, 3, 0);
        x.map(0, 0);
        x.setNew(0, 0, 0);
        Check.due("isFaithful(0), sums without a position are 0", 1, x.isFaithful(0));
        x.setOldTerm(0, 2, 1);
        Check.due("isFaithful(0), 1 for the last parameter is not 0", 0, x.isFaithful(0));
        x.setOldTerm(0, 2, 99);
        x.setNew(0, 4, 0);
        x.setNewTerm(0, 2, 99);
        Check.due("isFaithful(0), 99 is 99", 1, x.isFaithful(0));
        x.setSource(0, 3, 2);
        x.setNewTerm(0, 3, 1);
        Check.due("isFaithful(0), 99 + 1 is not 99", 0, x.isFaithful(0));
        x.setOldTerm(0, 2, 0);
        Check.due("isFaithful(0), 99 + 1 is not 0", 0, x.isFaithful(0));
        x.setNewTerm(0, 2, 0);
        x.setNewTerm(0, 3, 0);
        x.setOldTerm(0, 0, 99);
        x.setNewTerm(0, 0, 33);
        x.setNewTerm(0, 1, 33);
        x.setNewTerm(0, 3, 33);
        x.setSource(0, 1, 0);
        Check.due("setSource(0, 3, 0), 33 + 33 + 33 is 99", 1, x.setSource(0, 3, 0));
        Check.due("setSource(0, 3, 1), 33 + 33 is not 99", 0, x.setSource(0, 3, 1));
    }

    @Sentence(promise = 6, says = "for all values of the old arguments, the value of the new call with the arguments "
        + "that the template gives is the value of the old call")
    static void faithfulMappingsKeepTheValue() {
        CallMigrator x = new CallMigrator();
        x.setOld(0, 2, 0);
        x.setOldTerm(0, -1, 20);
        x.setOldTerm(0, 0, 99);
        x.setOldTerm(0, 1, 0);
        x.setNew(0, 4, 0);
        x.setNewTerm(0, -1, 70);
        x.setNewTerm(0, 0, 0);
        x.setNewTerm(0, 1, 98);
        x.setNewTerm(0, 2, 50);
        x.setNewTerm(0, 3, 1);
        x.map(0, 0);
        x.setSource(0, 0, 1);
        x.setSource(0, 1, 0);
        x.setConstant(0, 2, 99);
        Check.due("setSource(0, 3, 0)", 1, x.setSource(0, 3, 0));
        Check.parse(x, "a(x,y)");
        dueValues(x);
        Check.due("migrate()", 1, x.migrate());
        dueValues(x);
    }

    private static void dueValues(CallMigrator x) {
        int[] arguments = {0, 1, 499, 999};
        for (int a : arguments) {
            Check.due("value(" + a + ", " + (999 - a) + ")", (20 + 99 * a) % 1000, x.value(a, 999 - a));
        }
    }

    @Sentence(promise = 7, says = "Removes the mapping of an old function.")
    static void unmapRemovesOneMapping() {
        CallMigrator x = new CallMigrator();
        for (int f = 0; f < 6; f++) {
            x.map(f, f);
        }
        x.unmap(2);
        for (int f = 0; f < 6; f++) {
            Check.due("isFaithful(" + f + ")", f == 2 ? -3 : 1, x.isFaithful(f));
        }
        dueMoved(x, "b(c(d(x)))", "B(c(D(x)))");
        Check.due("left(2)", 1, x.left(2));
    }

    @Sentence(promise = 7, says = "`oldFunction`: 0 to 5")
    static void unmapOldFunction() {
        CallMigrator x = new CallMigrator();
        x.map(0, 1);
        x.map(5, 4);
        Edges.refusedOutside(x, "unmap(oldFunction)", 0, 5, x::unmap);
        Check.due("unmap(0)", 1, x.unmap(0));
        Check.due("unmap(5)", 4, x.unmap(5));
    }

    @Sentence(promise = 7, says = "Returns the new function of the mapping")
    static void unmapAnswersTheNewFunction() {
        CallMigrator x = new CallMigrator();
        for (int f = 0; f < 6; f++) {
            x.map(3, f);
            Check.due("unmap(3)", f, x.unmap(3));
        }
        x.map(3, 0);
        x.map(3, 5);
        Check.due("unmap(3) after two mappings", 5, x.unmap(3));
    }

    @Sentence(promise = 7, says = "OUT_OF_RANGE if there is no such function (checked first)")
    static void unmapChecksTheRangeFirst() {
        CallMigrator x = new CallMigrator();
        Edges.refused(x, "unmap(6)", -2, () -> x.unmap(6));
        Edges.refused(x, "unmap(-1)", -2, () -> x.unmap(-1));
        Check.due("errorCount(-3)", 0, x.errorCount(-3));
    }

    @Sentence(promise = 7, says = "MISSING if it has no mapping")
    static void unmapMissing() {
        CallMigrator x = new CallMigrator();
        for (int f = 0; f < 6; f++) {
            int function = f;
            Edges.refused(x, "unmap(" + f + ")", -3, () -> x.unmap(function));
        }
        x.map(0, 0);
        x.unmap(0);
        Edges.refused(x, "unmap(0) again", -3, () -> x.unmap(0));
        Check.due("undo()", 1, x.undo());
        Check.due("unmap(0) after undo()", 0, x.unmap(0));
    }

    @Sentence(promise = 7, says = "Undoable.")
    static void unmapUndoable() {
        CallMigrator x = new CallMigrator();
        x.map(0, 5);
        x.setConstant(0, 0, 88);
        long before = x.digest();
        x.unmap(0);
        Check.due("undo()", 2, x.undo());
        Check.due("digest()", before, x.digest());
        dueMoved(x, "a(x)", "F(88)");
    }

    @Sentence(promise = 8, says = "Sets an entry of a template to a source.")
    static void setSourceSetsOneEntry() {
        CallMigrator x = new CallMigrator();
        x.setNew(0, 4, 0);
        x.setOld(0, 3, 0);
        x.setOld(1, 3, 0);
        x.map(0, 0);
        x.map(1, 0);
        x.setSource(0, 1, 2);
        dueMoved(x, "a(7,8,9)", "A(7,9,9,0)");
        dueMoved(x, "b(7,8,9)", "A(7,8,9,0)");
    }

    @Sentence(promise = 8, says = "`oldFunction`: 0 to 5")
    static void setSourceOldFunction() {
        CallMigrator x = new CallMigrator();
        x.map(0, 0);
        x.map(5, 5);
        Edges.refusedOutside(x, "setSource(oldFunction, 0, 0)", 0, 5, f -> x.setSource(f, 0, 0));
        Check.due("setSource(0, 0, 0)", 1, x.setSource(0, 0, 0));
        Check.due("setSource(5, 0, 0)", 1, x.setSource(5, 0, 0));
    }

    @Sentence(promise = 8, says = "`position`: position of the entry, 0 to 3")
    static void setSourcePosition() {
        CallMigrator x = new CallMigrator();
        x.setNew(0, 4, 0);
        x.setOld(0, 3, 0);
        x.map(0, 0);
        Edges.refusedOutside(x, "setSource(0, position, 0)", 0, 3, position -> x.setSource(0, position, 0));
        Check.due("setSource(0, 0, 1)", 1, x.setSource(0, 0, 1));
        Check.due("setSource(0, 3, 2)", 1, x.setSource(0, 3, 2));
        dueMoved(x, "a(7,8,9)", "A(8,8,9,9)");
    }

    @Sentence(promise = 8, says = "`source`: 0 to 2")
    static void setSourceSource() {
        CallMigrator x = new CallMigrator();
        x.setOld(0, 3, 0);
        x.map(0, 0);
        Edges.refusedOutside(x, "setSource(0, 0, source)", 0, 2, source -> x.setSource(0, 0, source));
        Check.due("setSource(0, 0, 2)", 1, x.setSource(0, 0, 2));
        dueMoved(x, "a(7,8,9)", "A(9)");
        Check.due("setSource(0, 0, 0)", 1, x.setSource(0, 0, 0));
        dueMoved(x, "a(7,8,9)", "A(7)");
    }

    @Sentence(promise = 8, says = "Returns 1 if the mapping is faithful now, 0 if it is not")
    static void setSourceAnswersFaithfulness() {
        CallMigrator x = new CallMigrator();
        x.setOld(0, 2, 0);
        x.setOldTerm(0, 1, 5);
        x.setNewTerm(0, 0, 5);
        Check.due("map(0, 0)", 0, x.map(0, 0));
        Check.due("setSource(0, 0, 1)", 1, x.setSource(0, 0, 1));
        Check.due("setSource(0, 0, 1) again", 1, x.setSource(0, 0, 1));
        Check.due("setSource(0, 0, 2), beyond the arity", 0, x.setSource(0, 0, 2));
        Check.due("setSource(0, 0, 0)", 0, x.setSource(0, 0, 0));
    }

    @Sentence(promise = 8, says = "OUT_OF_RANGE if an argument is out of range (checked first)")
    static void setSourceChecksTheRangeFirst() {
        CallMigrator x = new CallMigrator();
        Edges.refused(x, "setSource(6, 0, 0) without a mapping", -2, () -> x.setSource(6, 0, 0));
        Edges.refused(x, "setSource(0, 4, 0) without a mapping", -2, () -> x.setSource(0, 4, 0));
        Edges.refused(x, "setSource(0, 0, 3) without a mapping", -2, () -> x.setSource(0, 0, 3));
        Edges.refused(x, "setSource(-1, -1, -1)", -2, () -> x.setSource(-1, -1, -1));
        Check.due("errorCount(-3)", 0, x.errorCount(-3));
    }

    @Sentence(promise = 8, says = "MISSING if the function has no mapping")
    static void setSourceMissing() {
        CallMigrator x = new CallMigrator();
        x.map(1, 0);
        Edges.refused(x, "setSource(0, 0, 0)", -3, () -> x.setSource(0, 0, 0));
        Edges.refused(x, "setSource(5, 3, 2)", -3, () -> x.setSource(5, 3, 2));
        x.unmap(1);
        Edges.refused(x, "setSource(1, 0, 0) after unmap(1)", -3, () -> x.setSource(1, 0, 0));
    }

    @Sentence(promise = 8, says = "Undoable.")
    static void setSourceUndoable() {
        CallMigrator x = new CallMigrator();
        x.map(0, 0);
        Edges.undoable(x, "setSource(0, 0, 2)", () -> x.setSource(0, 0, 2));
        x.setConstant(0, 0, 44);
        x.setSource(0, 0, 0);
        x.undo();
        dueMoved(x, "a(x)", "A(44)");
        x.setNew(5, 4, 0);
        x.setOld(5, 3, 0);
        x.map(5, 5);
        x.setSource(5, 3, 1);
        x.setSource(5, 3, 2);
        x.undo();
        dueMoved(x, "f(7,8,9)", "F(7,8,9,8)");
    }

    @Sentence(promise = 9, says = "Sets an entry of a template to a constant.")
    static void setConstantSetsOneEntry() {
        CallMigrator x = new CallMigrator();
        x.setNew(0, 4, 0);
        x.setOld(0, 3, 0);
        x.setOld(1, 3, 0);
        x.map(0, 0);
        x.map(1, 0);
        x.setConstant(0, 1, 2);
        dueMoved(x, "a(7,8,9)", "A(7,2,9,0)");
        dueMoved(x, "b(7,8,9)", "A(7,8,9,0)");
    }

    @Sentence(promise = 9, says = "`oldFunction`: 0 to 5")
    static void setConstantOldFunction() {
        CallMigrator x = new CallMigrator();
        x.map(0, 0);
        x.map(5, 5);
        Edges.refusedOutside(x, "setConstant(oldFunction, 0, 0)", 0, 5, f -> x.setConstant(f, 0, 0));
        Check.due("setConstant(0, 0, 3)", 1, x.setConstant(0, 0, 3));
        Check.due("setConstant(5, 0, 4)", 1, x.setConstant(5, 0, 4));
        x.setNew(5, 4, 0);
        x.setConstant(5, 1, 5);
        x.setConstant(5, 2, 6);
        Check.due("setConstant(5, 3, 7)", 1, x.setConstant(5, 3, 7));
        dueMoved(x, "a(x)", "A(3)");
        dueMoved(x, "f(x)", "F(4,5,6,7)");
    }

    @Sentence(promise = 9, says = "`position`: position of the entry, 0 to 3")
    static void setConstantPosition() {
        CallMigrator x = new CallMigrator();
        x.setNew(0, 4, 0);
        x.setOld(0, 3, 0);
        x.map(0, 0);
        Edges.refusedOutside(x, "setConstant(0, position, 5)", 0, 3, position -> x.setConstant(0, position, 5));
        Check.due("setConstant(0, 0, 1)", 1, x.setConstant(0, 0, 1));
        Check.due("setConstant(0, 3, 2)", 1, x.setConstant(0, 3, 2));
        dueMoved(x, "a(7,8,9)", "A(1,8,9,2)");
    }

    @Sentence(promise = 9, says = "`value`: 0 to 99")
    static void setConstantValue() {
        CallMigrator x = new CallMigrator();
        x.map(0, 0);
        Edges.refusedOutside(x, "setConstant(0, 0, value)", 0, 99, value -> x.setConstant(0, 0, value));
        Check.due("setConstant(0, 0, 99)", 1, x.setConstant(0, 0, 99));
        dueMoved(x, "a(x)", "A(99)");
        Check.due("setConstant(0, 0, 0)", 1, x.setConstant(0, 0, 0));
        dueMoved(x, "a(x)", "A(0)");
    }

    @Sentence(promise = 9, says = "Returns 1 if the mapping is faithful now, 0 if it is not")
    static void setConstantAnswersFaithfulness() {
        CallMigrator x = new CallMigrator();
        x.setOldTerm(0, -1, 99);
        x.setNewTerm(0, 0, 1);
        Check.due("map(0, 0)", 0, x.map(0, 0));
        Check.due("setConstant(0, 0, 98)", 0, x.setConstant(0, 0, 98));
        Check.due("setConstant(0, 0, 99)", 1, x.setConstant(0, 0, 99));
        Check.due("setConstant(0, 0, 99) again", 1, x.setConstant(0, 0, 99));
        Check.due("setConstant(0, 0, 0)", 0, x.setConstant(0, 0, 0));
        x.setOldTerm(0, -1, 0);
        Check.due("setConstant(0, 0, 0)", 1, x.setConstant(0, 0, 0));
    }

    @Sentence(promise = 9, says = "OUT_OF_RANGE if an argument is out of range (checked first)")
    static void setConstantChecksTheRangeFirst() {
        CallMigrator x = new CallMigrator();
        Edges.refused(x, "setConstant(6, 0, 0) without a mapping", -2, () -> x.setConstant(6, 0, 0));
        Edges.refused(x, "setConstant(0, 4, 0) without a mapping", -2, () -> x.setConstant(0, 4, 0));
        Edges.refused(x, "setConstant(0, 0, 100) without a mapping", -2, () -> x.setConstant(0, 0, 100));
        Edges.refused(x, "setConstant(-1, -1, -1)", -2, () -> x.setConstant(-1, -1, -1));
        Check.due("errorCount(-3)", 0, x.errorCount(-3));
    }

    @Sentence(promise = 9, says = "MISSING if the function has no mapping")
    static void setConstantMissing() {
        CallMigrator x = new CallMigrator();
        x.map(1, 0);
        Edges.refused(x, "setConstant(0, 0, 0)", -3, () -> x.setConstant(0, 0, 0));
        Edges.refused(x, "setConstant(5, 3, 99)", -3, () -> x.setConstant(5, 3, 99));
        x.unmap(1);
        Edges.refused(x, "setConstant(1, 0, 0) after unmap(1)", -3, () -> x.setConstant(1, 0, 0));
    }

    @Sentence(promise = 9, says = "Undoable.")
    static void setConstantUndoable() {
        CallMigrator x = new CallMigrator();
        x.map(0, 0);
        // With this coefficient the source is not faithful, but the constant 0 is.
        x.setNewTerm(0, 0, 1);
        Edges.undoable(x, "setConstant(0, 0, 0)", () -> x.setConstant(0, 0, 0));
        x.setNewTerm(0, 0, 0);
        x.setConstant(0, 0, 44);
        x.setConstant(0, 0, 45);
        x.undo();
        dueMoved(x, "a(x)", "A(44)");
        x.setNew(5, 4, 0);
        x.setOld(5, 3, 0);
        x.map(5, 5);
        x.setConstant(5, 3, 46);
        x.setConstant(5, 3, 47);
        x.undo();
        dueMoved(x, "f(7,8,9)", "F(7,8,9,46)");
    }

    @Sentence(promise = 10, says = "Tells whether the mapping of an old function is faithful.")
    static void isFaithfulChangesNothing() {
        CallMigrator x = new CallMigrator();
        x.map(0, 0);
        x.setNewTerm(1, -1, 1);
        x.map(1, 1);
        Edges.changesNothing(x, "isFaithful(0)", 1, () -> x.isFaithful(0));
        Edges.changesNothing(x, "isFaithful(1)", 0, () -> x.isFaithful(1));
    }

    @Sentence(promise = 10, says = "`oldFunction`: 0 to 5")
    static void isFaithfulOldFunction() {
        CallMigrator x = new CallMigrator();
        x.map(0, 5);
        x.map(5, 0);
        Edges.refusedOutside(x, "isFaithful(oldFunction)", 0, 5, x::isFaithful);
        Check.due("isFaithful(0)", 1, x.isFaithful(0));
        Check.due("isFaithful(5)", 1, x.isFaithful(5));
    }

    @Sentence(promise = 10, says = "Returns 1 if it is, 0 if it is not")
    static void isFaithfulAnswersOfNow() {
        CallMigrator x = new CallMigrator();
        x.map(0, 0);
        Check.due("isFaithful(0)", 1, x.isFaithful(0));
        x.setNewTerm(0, 0, 1);
        Check.due("isFaithful(0) after setNewTerm(0, 0, 1)", 0, x.isFaithful(0));
        x.setOldTerm(0, 0, 1);
        Check.due("isFaithful(0) after setOldTerm(0, 0, 1)", 1, x.isFaithful(0));
        x.setOld(0, 0, 0);
        Check.due("isFaithful(0) after setOld(0, 0, 0)", 0, x.isFaithful(0));
        x.setNew(0, 0, 0);
        Check.due("isFaithful(0) after setNew(0, 0, 0)", 1, x.isFaithful(0));
        x.setOld(0, 1, 1);
        Check.due("isFaithful(0) after setOld(0, 1, 1)", 0, x.isFaithful(0));
        x.setNew(0, 1, 0);
        Check.due("isFaithful(0) with another effect flag", 1, x.isFaithful(0));
    }

    @Sentence(promise = 10, says = "OUT_OF_RANGE if there is no such function (checked first)")
    static void isFaithfulChecksTheRangeFirst() {
        CallMigrator x = new CallMigrator();
        Edges.refused(x, "isFaithful(6)", -2, () -> x.isFaithful(6));
        Edges.refused(x, "isFaithful(-1)", -2, () -> x.isFaithful(-1));
        Check.due("errorCount(-3)", 0, x.errorCount(-3));
    }

    @Sentence(promise = 10, says = "MISSING if it has no mapping")
    static void isFaithfulMissing() {
        CallMigrator x = new CallMigrator();
        Edges.refused(x, "isFaithful(0)", -3, () -> x.isFaithful(0));
        Edges.refused(x, "isFaithful(5)", -3, () -> x.isFaithful(5));
        x.map(5, 5);
        x.unmap(5);
        Edges.refused(x, "isFaithful(5) after unmap(5)", -3, () -> x.isFaithful(5));
    }

    @Sentence(promise = 11, says = "Allows adapters or not.")
    static void allowAdaptersAllows() {
        CallMigrator x = new CallMigrator();
        x.allowAdapters(1);
        dueMoved(x, "a(x)", "p(x)");
        x.allowAdapters(0);
        dueMoved(x, "b(a(x))", "b(a(x))");
        x.allowAdapters(1);
        dueMoved(x, "b(a(x))", "q(p(x))");
    }

    @Sentence(promise = 11, says = "`allowed`: 0 or 1")
    static void allowAdaptersRange() {
        CallMigrator x = new CallMigrator();
        Edges.refusedOutside(x, "allowAdapters(allowed) at 0", 0, 1, x::allowAdapters);
        Check.due("allowAdapters(1)", 0, x.allowAdapters(1));
        Edges.refusedOutside(x, "allowAdapters(allowed) at 1", 0, 1, x::allowAdapters);
        Check.due("allowAdapters(0)", 1, x.allowAdapters(0));
    }

    @Sentence(promise = 11, says = "Returns the previous setting")
    static void allowAdaptersPreviousSetting() {
        CallMigrator x = new CallMigrator();
        int previous = 0;
        int[] settings = {0, 1, 1, 0, 0, 1};
        for (int allowed : settings) {
            Check.due("allowAdapters(" + allowed + ")", previous, x.allowAdapters(allowed));
            previous = allowed;
        }
    }

    @Sentence(promise = 11, says = "OUT_OF_RANGE if allowed is neither 0 nor 1")
    static void allowAdaptersRefused() {
        CallMigrator x = new CallMigrator();
        Edges.refused(x, "allowAdapters(2)", -2, () -> x.allowAdapters(2));
        Edges.refused(x, "allowAdapters(-1)", -2, () -> x.allowAdapters(-1));
        Check.due("undo()", -5, x.undo());
        dueMoved(x, "a(x)", "a(x)");
    }

    @Sentence(promise = 11, says = "Undoable.")
    static void allowAdaptersUndoable() {
        CallMigrator x = new CallMigrator();
        Edges.undoable(x, "allowAdapters(1)", () -> x.allowAdapters(1));
        x.allowAdapters(0);
        Check.due("undo() of allowAdapters(0) that changes nothing", 0, x.undo());
        dueMoved(x, "a(x)", "a(x)");
    }

    @Sentence(promise = 12, says = "Returns the adapter of an old function.")
    static void adapterOfChangesNothing() {
        CallMigrator x = new CallMigrator();
        Edges.makeAdapters(x, 2);
        Edges.changesNothing(x, "adapterOf(0)", 0, () -> x.adapterOf(0));
        Edges.changesNothing(x, "adapterOf(1)", 1, () -> x.adapterOf(1));
    }

    @Sentence(promise = 12, says = "`oldFunction`: 0 to 5")
    static void adapterOfOldFunction() {
        CallMigrator x = new CallMigrator();
        x.allowAdapters(1);
        dueMoved(x, "a(f(x))", "q(p(x))");
        Edges.refusedOutside(x, "adapterOf(oldFunction)", 0, 5, x::adapterOf);
        Check.due("adapterOf(0)", 1, x.adapterOf(0));
        Check.due("adapterOf(5)", 0, x.adapterOf(5));
    }

    @Sentence(promise = 12, says = "Returns the number of the adapter")
    static void adapterOfNumbers() {
        CallMigrator x = new CallMigrator();
        x.allowAdapters(1);
        dueMoved(x, "c(f(a(d(x))))", "s(r(q(p(x))))");
        Check.due("adapterOf(3), the first", 0, x.adapterOf(3));
        Check.due("adapterOf(0)", 1, x.adapterOf(0));
        Check.due("adapterOf(5)", 2, x.adapterOf(5));
        Check.due("adapterOf(2), the last", 3, x.adapterOf(2));
        x.allowAdapters(0);
        Check.due("adapterOf(2) when adapters are not allowed", 3, x.adapterOf(2));
    }

    @Sentence(promise = 12, says = "OUT_OF_RANGE if there is no such function (checked first)")
    static void adapterOfChecksTheRangeFirst() {
        CallMigrator x = new CallMigrator();
        Edges.refused(x, "adapterOf(6)", -2, () -> x.adapterOf(6));
        Edges.refused(x, "adapterOf(-1)", -2, () -> x.adapterOf(-1));
        Check.due("errorCount(-3)", 0, x.errorCount(-3));
    }

    @Sentence(promise = 12, says = "MISSING if it has no adapter")
    static void adapterOfMissing() {
        CallMigrator x = new CallMigrator();
        for (int f = 0; f < 6; f++) {
            int function = f;
            Edges.refused(x, "adapterOf(" + f + ")", -3, () -> x.adapterOf(function));
        }
        Edges.makeAdapters(x, 1);
        Check.due("adapterOf(0)", 0, x.adapterOf(0));
        Edges.refused(x, "adapterOf(1)", -3, () -> x.adapterOf(1));
        x.undo();
        Edges.refused(x, "adapterOf(0) after undo()", -3, () -> x.adapterOf(0));
        dueMoved(x, "f(x)", "p(x)");
        Check.due("adapterOf(5)", 0, x.adapterOf(5));
        x.undo();
        Edges.refused(x, "adapterOf(5) after undo()", -3, () -> x.adapterOf(5));
    }

    @Sentence(promise = 12, says = "at most 4 adapters, numbered 0 to 3 and written p to s")
    static void fourAdapters() {
        CallMigrator x = new CallMigrator();
        Edges.makeAdapters(x, 4);
        Check.dueProgram(x, "s(r(q(p(x))))");
        dueMoved(x, "e(f(x))", "e(f(x))");
        Check.due("left(2)", 2, x.left(2));
        Edges.refused(x, "adapterOf(4)", -3, () -> x.adapterOf(4));
        Edges.refused(x, "adapterOf(5)", -3, () -> x.adapterOf(5));
        Check.dueSyntaxError(x, "t(x)", 0);
        Check.due("parse() of all adapters", 5, Check.parse(x, "p(q(r(s(x))))"));
    }

    @Sentence(promise = 12, says = "An adapter belongs to the old function for which it was made and stays as it is "
        + "when the old function is changed.")
    static void anAdapterStaysAsItIs() {
        CallMigrator x = new CallMigrator();
        x.setOldTerm(0, -1, 1);
        x.setOldTerm(0, 0, 2);
        x.setOldTerm(0, 1, 3);
        Edges.makeAdapters(x, 1);
        x.setOld(0, 2, 1);
        x.setOldTerm(0, -1, 99);
        x.setOldTerm(0, 0, 98);
        x.setOldTerm(0, 1, 97);
        Check.due("adapterOf(0)", 0, x.adapterOf(0));
        Check.due("value(10, 0) of the adapter's call", 21, x.value(10, 0));
        Check.dueSyntaxError(x, "p(x,y)", 3);
        dueMoved(x, "a(x,y)", "p(x,y)");
        Check.due("value(10, 1) of the adapter's call", 24, x.value(10, 1));
        x.map(1, 1);
        x.setConstant(1, 0, 0);
        dueMoved(x, "b(p(x))", "B(0)");
        x.map(0, 0);
        Check.due("adapterOf(0) after map(0, 0)", 0, x.adapterOf(0));
    }
}
