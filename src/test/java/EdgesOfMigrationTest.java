/** The boundary cases of promises 16 and 17, sentence by sentence. */
public final class EdgesOfMigrationTest {
    private EdgesOfMigrationTest() {
    }

    public static void main(String[] args) throws ReflectiveOperationException {
        Edges.run(EdgesOfMigrationTest.class);
    }

    /** Migrates a text: how many sites are replaced, the reasons of the others, and the outcome. */
    private static void dueMigrated(CallMigrator x, String text, int replaced, String left, String want) {
        Check.parse(x, text);
        Check.due("migrate() of " + text, replaced, x.migrate());
        Check.dueLeft(x, left);
        Check.dueProgram(x, want);
    }

    /** a is mapped to A with the arities given; F() is a call with an effect. */
    private static CallMigrator withEffects(int oldArity, int newArity) {
        CallMigrator x = new CallMigrator();
        x.setOld(0, oldArity, 0);
        x.setNew(0, newArity, 0);
        x.setNew(5, 0, 1);
        x.map(0, 0);
        return x;
    }

    private static void setSources(CallMigrator x, int... sources) {
        for (int position = 0; position < sources.length; position++) {
            x.setSource(0, position, sources[position]);
        }
    }

    @Sentence(promise = 16, says = "Migrates the program.")
    static void programsWithoutSites() {
        CallMigrator x = new CallMigrator();
        x.setNew(1, 0, 0);
        Check.due("migrate() of the first program", 0, x.migrate());
        dueMigrated(x, "x", 0, "0000000", "x");
        dueMigrated(x, "99", 0, "0000000", "99");
        dueMigrated(x, "A(B())", 0, "0000000", "A(B())");
        Edges.makeAdapters(x, 1);
        dueMigrated(x, "p(x)", 0, "0000000", "p(x)");
    }

    @Sentence(promise = 16, says = "Undoable.")
    static void migrateUndoable() {
        CallMigrator x = new CallMigrator();
        x.allowAdapters(1);
        Check.parse(x, "a(x)");
        Edges.undoable(x, "migrate()", x::migrate);
        Check.dueProgram(x, "a(x)");
        Check.due("adapterOf(0)", -3, x.adapterOf(0));
        x.undo();
        x.undo();
        Check.due("migrate() of a program without sites", 0, x.migrate());
        Check.due("undo()", 0, x.undo());
    }

    @Sentence(promise = 16, says = "Returns the number of sites that were replaced (with new functions or adapters).")
    static void theNumberOfReplacedSites() {
        CallMigrator x = new CallMigrator();
        x.setOld(1, 0, 0);
        x.map(0, 0);
        dueMigrated(x, "a(b())", 1, "0100000", "A(b())");
        x.allowAdapters(1);
        dueMigrated(x, "a(b())", 2, "0000000", "A(p())");
        String all = Edges.nested("a(", 29, "b()");
        dueMigrated(x, all, 30, "0000000", all.replace('a', 'A').replace('b', 'p'));
        // A site that was replaced counts, even if it is then dropped or copied.
        x.setNew(0, 0, 0);
        dueMigrated(x, "a(a(b()))", 3, "0000000", "A()");
        x.setNew(0, 2, 0);
        x.setSource(0, 1, 0);
        dueMigrated(x, "a(b())", 2, "0000000", "A(p(),p())");
    }

    @Sentence(promise = 16, says = "The sites are treated from the inside out: the arguments of a call are treated before "
        + "the call, from left to right.")
    static void insideOutFromLeftToRight() {
        CallMigrator x = new CallMigrator();
        x.setOld(0, 3, 0);
        x.allowAdapters(1);
        // The numbers of the adapters tell the order.
        dueMigrated(x, "a(b(c(1)),2,d(3))", 4, "0000000", "s(q(p(1)),2,r(3))");
        // Only the first of two sites finds room to grow.
        CallMigrator y = withEffects(1, 4);
        y.setNew(1, 2, 0);
        setSources(y, 0, 0, 0, 0);
        String part = Edges.nested("C(", 4, "x");
        String site = "a(" + part + ")";
        String moved = "A(" + part + "," + part + "," + part + "," + part + ")";
        dueMigrated(y, "B(" + site + "," + site + ")", 1, "0000001", "B(" + moved + "," + site + ")");
    }

    @Sentence(promise = 16, says = "For each site the following cases are checked in this order; the first one that applies "
        + "decides.")
    static void theFirstCaseDecides() {
        CallMigrator x = withEffects(2, 4);
        Check.parse(x, "a(F()," + Edges.nested("B(", 24, "F()") + ")");
        setSources(x, 1, 0, 0, 0);
        x.setOld(0, 3, 0);
        x.setOldTerm(0, -1, 1);
        x.migrate();
        Check.dueLeft(x, "1000000");
        x.setOld(0, 2, 0);
        x.migrate();
        Check.dueLeft(x, "0010000");
        // Faithful now: source 0 is repeated and behind source 1, and there are too many nodes.
        x.setOldTerm(0, -1, 0);
        x.migrate();
        Check.dueLeft(x, "0001000");
        // Source 0 is repeated and source 1 is lost.
        setSources(x, 0, 0);
        x.migrate();
        Check.dueLeft(x, "0001000");
    }

    @Sentence(promise = 16, says = "(4) An argument of the call has an effect, and its position is the source of no used "
        + "entry: the site is left with reason 5.")
    static void anEffectIsLost() {
        CallMigrator x = withEffects(3, 2);
        dueMigrated(x, "a(1,2,F())", 0, "0000100", "a(1,2,F())");
        dueMigrated(x, "a(F(),F(),3)", 1, "0000000", "A(F(),F())");
        setSources(x, 1, 2);
        dueMigrated(x, "a(F(),2,3)", 0, "0000100", "a(F(),2,3)");
        dueMigrated(x, "a(1,F(),F())", 1, "0000000", "A(F(),F())");
        x.setNew(0, 0, 0);
        dueMigrated(x, "a(1,F(),3)", 0, "0000100", "a(1,F(),3)");
        dueMigrated(x, "a(1,2,3)", 1, "0000000", "A()");
        // The effects of one site's arguments are not those of the next site's.
        CallMigrator z = withEffects(3, 3);
        z.setNew(1, 3, 0);
        z.map(1, 2);
        z.setOld(3, 2, 0);
        z.map(3, 3);
        dueMigrated(z, "B(a(F(),F(),F()),b(x),d(1,2))", 3, "0000000", "B(A(F(),F(),F()),C(x),D(1))");
        // A lost effect goes ahead of the wrong order and of too many nodes.
        CallMigrator y = withEffects(3, 4);
        setSources(y, 2, 1, 2, 1);
        String large = Edges.nested("B(", 22, "7");
        dueMigrated(y, "a(F(),F()," + large + ")", 0, "0001000", "a(F(),F()," + large + ")");
        y.setConstant(0, 3, 0);
        dueMigrated(y, "a(F(),F()," + large + ")", 0, "0000100", "a(F(),F()," + large + ")");
    }

    @Sentence(promise = 16, says = "an argument has an effect if it contains (after its own treatment) a call of a function "
        + "whose effect flag is 1")
    static void effectsAfterTheTreatment() {
        CallMigrator x = withEffects(1, 0);
        x.setNew(1, 0, 0);
        x.setOld(1, 0, 1);
        x.map(1, 1);
        dueMigrated(x, "a(b())", 2, "0000000", "A()");
        x.setNew(1, 0, 1);
        x.setOld(1, 0, 0);
        dueMigrated(x, "a(b())", 1, "0000100", "a(B())");
        x.unmap(1);
        dueMigrated(x, "a(b())", 1, "0100000", "A()");
        x.setOld(1, 0, 1);
        dueMigrated(x, "a(b())", 0, "0100100", "a(b())");
        // The adapter has the flag that the function had when it was made.
        x.allowAdapters(1);
        dueMigrated(x, "a(b())", 1, "0000100", "a(p())");
        x.setOld(1, 0, 0);
        dueMigrated(x, "a(b())", 1, "0000100", "a(p())");
        // The call at the very bottom of an argument counts, the site itself does not.
        dueMigrated(x, "a(C(D(F())))", 0, "0000100", "a(C(D(F())))");
        x.setOld(0, 1, 1);
        x.setNew(0, 0, 1);
        dueMigrated(x, "a(C(D(1)))", 1, "0000000", "A()");
    }

    @Sentence(promise = 16, says = "(1) The number of arguments of the call is not the arity of the old function: the site is "
        + "left with reason 1.")
    static void anotherArity() {
        CallMigrator x = new CallMigrator();
        x.map(0, 0);
        x.setNew(0, 0, 0);
        Check.parse(x, "a(a(x))");
        int[] others = {0, 2, 3};
        for (int arity : others) {
            x.setOld(0, arity, 0);
            Check.due("migrate() with arity " + arity, 0, x.migrate());
            Check.dueLeft(x, "2000000");
        }
        x.setOld(0, 0, 0);
        Check.parse(x, "a()");
        x.setOld(0, 1, 0);
        x.unmap(0);
        x.allowAdapters(1);
        Check.due("migrate() of a() with arity 1", 0, x.migrate());
        Check.dueLeft(x, "1000000");
        x.setOld(0, 0, 0);
        Check.due("migrate() of a() with arity 0", 1, x.migrate());
        Check.dueLeft(x, "0000000");
        Check.dueProgram(x, "p()");
    }

    @Sentence(promise = 16, says = "if adapters are allowed and the old function has an adapter or an adapter can still be "
        + "made, the call becomes a call of the adapter of the old function with the same arguments")
    static void adaptersThatExistOrCanBeMade() {
        CallMigrator x = new CallMigrator();
        x.setNewTerm(5, -1, 1);
        x.map(5, 5);
        Edges.makeAdapters(x, 3);
        dueMigrated(x, "f(e(a(x)))", 2, "0010000", "f(s(p(x)))");
        // All four are made: those that exist are still used, no other can be made.
        dueMigrated(x, "e(d(c(b(a(f(x))))))", 4, "0110000", "s(d(r(q(p(f(x))))))");
        x.allowAdapters(0);
        dueMigrated(x, "a(f(x))", 0, "0110000", "a(f(x))");
    }

    @Sentence(promise = 16, says = "an adapter that does not exist yet is made with the next number, and it gets the arity, "
        + "effect flag, constant term and coefficients that the old function has now")
    static void theAdapterThatIsMade() {
        CallMigrator x = withEffects(1, 0);
        x.setOld(3, 3, 1);
        x.setOldTerm(3, -1, 99);
        x.setOldTerm(3, 0, 1);
        x.setOldTerm(3, 1, 10);
        x.setOldTerm(3, 2, 50);
        x.allowAdapters(1);
        dueMigrated(x, "d(1,2,3)", 1, "0000000", "p(1,2,3)");
        Check.due("value(0, 0)", 270, x.value(0, 0));
        dueMigrated(x, "a(p(1,2,3))", 0, "0000100", "a(p(1,2,3))");
        Check.dueSyntaxError(x, "p(1,2)", 5);
        dueMigrated(x, "b(1)", 1, "0000000", "q(1)");
        Check.due("adapterOf(3)", 0, x.adapterOf(3));
        Check.due("adapterOf(1)", 1, x.adapterOf(1));
        // After an undo the number is the next one again.
        x.undo();
        dueMigrated(x, "c(1)", 1, "0000000", "q(1)");
        Check.due("adapterOf(1)", -3, x.adapterOf(1));
    }

    @Sentence(promise = 16, says = "Otherwise the site is left with reason 2 if there is no mapping and with reason 3 if it "
        + "is not faithful.")
    static void noMappingOrNotFaithful() {
        CallMigrator x = new CallMigrator();
        dueMigrated(x, "a(x)", 0, "0100000", "a(x)");
        x.map(0, 0);
        x.setNewTerm(0, 0, 1);
        dueMigrated(x, "a(x)", 0, "0010000", "a(x)");
        x.setNewTerm(0, 0, 0);
        x.setSource(0, 0, 1);
        dueMigrated(x, "a(x)", 0, "0010000", "a(x)");
        x.unmap(0);
        dueMigrated(x, "a(x)", 0, "0100000", "a(x)");
    }

    @Sentence(promise = 16, says = "(2) The old function has no mapping, or its mapping is not faithful")
    static void aFaithfulMappingNeedsNoAdapter() {
        CallMigrator x = new CallMigrator();
        x.allowAdapters(1);
        x.map(0, 0);
        dueMigrated(x, "a(x)", 1, "0000000", "A(x)");
        Check.due("adapterOf(0)", -3, x.adapterOf(0));
        x.setOldTerm(0, 0, 1);
        dueMigrated(x, "a(x)", 1, "0000000", "p(x)");
        x.setOldTerm(0, 0, 0);
        dueMigrated(x, "a(x)", 1, "0000000", "A(x)");
        // A site of a faithful mapping that is left for its effects gets no adapter either.
        x.setNew(5, 0, 1);
        x.setConstant(0, 0, 0);
        dueMigrated(x, "a(F())", 0, "0000100", "a(F())");
    }

    @Sentence(promise = 16, says = "(3) A used entry of the template is a source whose argument has an effect and that occurs "
        + "in more than one used entry: the site is left with reason 4.")
    static void anEffectIsRepeated() {
        CallMigrator x = withEffects(2, 4);
        setSources(x, 0, 1);
        x.setConstant(0, 2, 0);
        x.setConstant(0, 3, 0);
        dueMigrated(x, "a(F(),F())", 1, "0000000", "A(F(),F(),0,0)");
        x.setSource(0, 3, 0);
        dueMigrated(x, "a(F(),1)", 0, "0001000", "a(F(),1)");
        dueMigrated(x, "a(1,F())", 1, "0000000", "A(1,F(),0,1)");
        x.setSource(0, 3, 1);
        dueMigrated(x, "a(1,F())", 0, "0001000", "a(1,F())");
        // A repetition in an entry that is not used does not count.
        x.setNew(0, 3, 0);
        dueMigrated(x, "a(1,F())", 1, "0000000", "A(1,F(),0)");
    }

    @Sentence(promise = 16, says = "(5) The new call would have sources with effects in another order: there are two used "
        + "entries with sources that have an effect, and the earlier entry has the greater source: the site is left with "
        + "reason 6.")
    static void effectsInAnotherOrder() {
        CallMigrator x = withEffects(3, 4);
        x.setConstant(0, 1, 0);
        x.setConstant(0, 2, 0);
        x.setSource(0, 0, 1);
        x.setSource(0, 3, 0);
        dueMigrated(x, "a(F(),F(),3)", 0, "0000010", "a(F(),F(),3)");
        dueMigrated(x, "a(F(),2,3)", 1, "0000000", "A(2,0,0,F())");
        dueMigrated(x, "a(1,F(),3)", 1, "0000000", "A(F(),0,0,1)");
        x.setSource(0, 0, 0);
        x.setSource(0, 3, 1);
        dueMigrated(x, "a(F(),F(),3)", 1, "0000000", "A(F(),0,0,F())");
        setSources(x, 0, 2, 1);
        x.setConstant(0, 3, 0);
        dueMigrated(x, "a(F(),F(),F())", 0, "0000010", "a(F(),F(),F())");
        dueMigrated(x, "a(F(),2,F())", 1, "0000000", "A(F(),F(),2,0)");
        // An entry that is not used does not count, nor does one of another function.
        x.setNew(0, 2, 0);
        setSources(x, 1, 2, 0, 2);
        dueMigrated(x, "a(1,F(),F())", 1, "0000000", "A(F(),F())");
        x.setOld(1, 3, 0);
        x.setNew(1, 3, 0);
        x.map(1, 1);
        dueMigrated(x, "b(F(),F(),F())", 1, "0000000", "B(F(),F(),F())");
    }

    @Sentence(promise = 16, says = "(6) The program would have more than 30 nodes after replacing the call: the site is left "
        + "with reason 7.")
    static void moreThanThirtyNodes() {
        String tooLarge = Edges.nested("B(", 28, "a(x)");
        CallMigrator x = withEffects(1, 2);
        x.setSource(0, 1, 0);
        dueMigrated(x, Edges.nested("B(", 27, "a(x)"), 1, "0000000", Edges.nested("B(", 27, "A(x,x)"));
        Check.due("nodes()", 30, x.nodes());
        dueMigrated(x, tooLarge, 0, "0000001", tooLarge);
        // A constant is a node too.
        CallMigrator y = withEffects(1, 2);
        y.setConstant(0, 1, 99);
        dueMigrated(y, Edges.nested("B(", 27, "a(x)"), 1, "0000000", Edges.nested("B(", 27, "A(x,99)"));
        dueMigrated(y, tooLarge, 0, "0000001", tooLarge);
    }

    @Sentence(promise = 16, says = "a node is a number, a variable or a call")
    static void aFullProgram() {
        CallMigrator x = new CallMigrator();
        x.map(0, 0);
        String full = Edges.nested("a(", 29, "x");
        dueMigrated(x, full, 29, "0000000", full.replace('a', 'A'));
        // A full program keeps its size with adapters, and a smaller call finds room.
        x.unmap(0);
        x.allowAdapters(1);
        dueMigrated(x, full, 29, "0000000", full.replace('a', 'p'));
        x.map(0, 0);
        x.setNew(0, 0, 0);
        dueMigrated(x, full, 29, "0000000", "A()");
        Check.due("nodes()", 1, x.nodes());
    }

    @Sentence(promise = 16, says = "(7) Otherwise the call becomes the call of the new function with the arguments of the "
        + "template.")
    static void theCallOfTheNewFunction() {
        CallMigrator x = withEffects(0, 0);
        x.setOld(1, 0, 0);
        dueMigrated(x, "B(a())", 1, "0000000", "B(A())");
        x.setOld(0, 3, 0);
        x.setNew(0, 4, 0);
        setSources(x, 2, 2, 1, 2);
        dueMigrated(x, "a(C(1),C(D(x)),y)", 1, "0000000", "A(y,y,C(D(x)),y)");
        x.setConstant(0, 0, 0);
        x.setConstant(0, 3, 99);
        dueMigrated(x, "B(a(a(1,2,3),a(4,5,6),b()))", 3, "0100000", "B(A(0,b(),A(0,6,5,99),99))");
    }

    @Sentence(promise = 17, says = "Counts the sites that the latest migration left for a reason.")
    static void leftBelongsToTheLatestMigration() {
        CallMigrator x = new CallMigrator();
        dueMigrated(x, "a(b(1))", 0, "0200000", "a(b(1))");
        Check.parse(x, "c(1)");
        Check.dueLeft(x, "0200000");
        x.migrate();
        Check.dueLeft(x, "0100000");
        x.map(2, 2);
        Check.dueLeft(x, "0100000");
        x.migrate();
        Check.dueLeft(x, "0000000");
        x.undo();
        Check.dueLeft(x, "0100000");
        x.undo();
        x.undo();
        Check.dueLeft(x, "0200000");
        Edges.changesNothing(x, "left(2)", 2, () -> x.left(2));
    }

    @Sentence(promise = 17, says = "`reason`: 1 to 7")
    static void leftReason() {
        CallMigrator x = new CallMigrator();
        Edges.refusedOutside(x, "left(reason)", 1, 7, x::left);
        Check.parse(x, "a(x)");
        x.setOld(0, 0, 0);
        x.migrate();
        Check.due("left(1)", 1, x.left(1));
        Check.due("left(7)", 0, x.left(7));
        CallMigrator y = withEffects(1, 2);
        y.setSource(0, 1, 0);
        Check.parse(y, Edges.nested("B(", 28, "a(x)"));
        y.migrate();
        Check.due("left(1)", 0, y.left(1));
        Check.due("left(7)", 1, y.left(7));
    }

    @Sentence(promise = 17, says = "Returns the number of sites")
    static void leftAnswersTheNumber() {
        CallMigrator x = new CallMigrator();
        x.setOld(1, 0, 0);
        Check.parse(x, Edges.nested("a(", 29, "b()"));
        x.migrate();
        Check.due("left(2) of 30 sites", 30, x.left(2));
        Check.due("left(3) of none", 0, x.left(3));
        x.map(0, 0);
        x.setSource(0, 0, 1);
        x.migrate();
        Check.due("left(2) of one site", 1, x.left(2));
        Check.due("left(3) of 29 sites", 29, x.left(3));
    }

    @Sentence(promise = 17, says = "0 if there was no migration")
    static void leftWithoutAMigration() {
        CallMigrator x = new CallMigrator();
        Check.dueLeft(x, "0000000");
        Check.parse(x, "a(x)");
        Check.dueLeft(x, "0000000");
        x.migrate();
        x.undo();
        Check.dueLeft(x, "0000000");
    }

    @Sentence(promise = 17, says = "OUT_OF_RANGE if there is no such reason")
    static void leftRefused() {
        CallMigrator x = new CallMigrator();
        x.map(0, 0);
        Check.parse(x, "a(b(x))");
        x.migrate();
        Edges.refused(x, "left(0)", -2, () -> x.left(0));
        Edges.refused(x, "left(8)", -2, () -> x.left(8));
        Edges.refused(x, "left(-2)", -2, () -> x.left(-2));
        Check.dueLeft(x, "0100000");
    }
}
