/** Promises 16 and 17: the migration, and the reasons of the sites that it left. */
public final class MigrationTest {
    private MigrationTest() {
    }

    public static void main(String[] args) {
        nothingToMove();
        insideOut();
        templatesWithAllKindsOfEntries();
        reasonOtherArity();
        reasonNoMappingOrNotFaithful();
        reasonRepeatedEffect();
        reasonLostEffect();
        reasonReorderedEffects();
        reasonTooManyNodes();
        theOrderOfTheReasons();
        effectsAfterTheTreatment();
        sitesThatAreDroppedOrCopied();
        nodesGrowFromLeftToRight();
        leftBelongsToTheLatestMigration();
        wrongReasons();
        migrateIsUndoable();
        constantsAreNodes();
        eachSiteHasItsOwnEffects();
        Check.finish();
    }

    private static void nothingToMove() {
        CallMigrator x = new CallMigrator();
        Check.due("migrate()", 0, x.migrate());
        Check.dueProgram(x, "0");
        Check.parse(x, "A(B(x))");
        Check.due("migrate()", 0, x.migrate());
        Check.dueProgram(x, "A(B(x))");
        Check.dueLeft(x, "0000000");
    }

    private static void insideOut() {
        CallMigrator x = new CallMigrator();
        x.setOld(0, 2, 0);
        x.setNew(0, 2, 0);
        x.map(0, 0);
        x.setSource(0, 0, 1);
        x.setSource(0, 1, 0);
        Check.parse(x, "a(a(1,a(2,3)),C(a(4,b(5))))");
        Check.due("migrate()", 4, x.migrate());
        Check.dueProgram(x, "A(C(A(b(5),4)),A(A(3,2),1))");
        Check.dueLeft(x, "0100000");
    }

    private static void templatesWithAllKindsOfEntries() {
        CallMigrator x = new CallMigrator();
        x.setOld(0, 3, 0);
        x.setNew(4, 4, 0);
        x.map(0, 4);
        x.setSource(0, 0, 2);
        x.setConstant(0, 1, 99);
        x.setSource(0, 2, 0);
        x.setSource(0, 3, 2);
        Check.parse(x, "a(x,B(C(y)),D(7))");
        Check.due("migrate()", 1, x.migrate());
        Check.dueProgram(x, "E(D(7),99,x,D(7))");
        x.setNew(4, 0, 0);
        Check.parse(x, "C(a(1,2,3))");
        Check.due("migrate()", 1, x.migrate());
        Check.dueProgram(x, "C(E())");
        x.setOld(0, 0, 0);
        x.setNew(4, 2, 0);
        x.setConstant(0, 0, 5);
        Check.parse(x, "a()");
        Check.due("migrate()", 1, x.migrate());
        Check.dueProgram(x, "E(5,99)");
    }

    private static void reasonOtherArity() {
        CallMigrator x = new CallMigrator();
        x.map(0, 0);
        Check.parse(x, "a(a(x))");
        x.setOld(0, 0, 0);
        x.setNew(0, 0, 0);
        x.allowAdapters(1);
        Check.due("isFaithful(0)", 1, x.isFaithful(0));
        Check.due("migrate()", 0, x.migrate());
        Check.dueLeft(x, "2000000");
        Check.dueProgram(x, "a(a(x))");
        x.unmap(0);
        Check.due("migrate()", 0, x.migrate());
        Check.dueLeft(x, "2000000");
        Check.due("adapterOf(0)", -3, x.adapterOf(0));
        x.setOld(0, 1, 0);
        Check.due("migrate()", 2, x.migrate());
        Check.dueProgram(x, "p(p(x))");
    }

    private static void reasonNoMappingOrNotFaithful() {
        CallMigrator x = new CallMigrator();
        x.setNewTerm(0, -1, 1);
        x.map(1, 0);
        Check.parse(x, "a(b(c(1)))");
        Check.due("migrate()", 0, x.migrate());
        Check.dueLeft(x, "0210000");
        x.allowAdapters(1);
        Check.due("migrate()", 3, x.migrate());
        Check.dueLeft(x, "0000000");
        Check.dueProgram(x, "r(q(p(1)))");
        // A faithful mapping goes ahead of the adapter that the function has.
        x.setNewTerm(0, -1, 0);
        Check.parse(x, "b(2)");
        Check.due("migrate()", 1, x.migrate());
        Check.dueProgram(x, "A(2)");
    }

    private static void effectSetting(CallMigrator x, int oldArity, int newArity) {
        x.setOld(0, oldArity, 0);
        x.setNew(0, newArity, 0);
        x.setNew(5, 0, 1);
        x.map(0, 0);
    }

    private static void reasonRepeatedEffect() {
        CallMigrator x = new CallMigrator();
        effectSetting(x, 2, 3);
        x.setSource(0, 2, 0);
        Check.parse(x, "a(F(),1)");
        Check.due("migrate()", 0, x.migrate());
        Check.dueLeft(x, "0001000");
        Check.dueProgram(x, "a(F(),1)");
        Check.parse(x, "a(1,F())");
        Check.due("migrate()", 1, x.migrate());
        Check.dueProgram(x, "A(1,F(),1)");
        x.setNew(0, 2, 0);
        Check.parse(x, "a(B(F()),1)");
        Check.due("migrate() with the repetition in an unused entry", 1, x.migrate());
        Check.dueProgram(x, "A(B(F()),1)");
        Check.parse(x, "a(F(),F())");
        Check.due("migrate() with another order in an unused entry", 1, x.migrate());
        Check.dueProgram(x, "A(F(),F())");
    }

    private static void reasonLostEffect() {
        CallMigrator x = new CallMigrator();
        effectSetting(x, 3, 3);
        x.setConstant(0, 1, 4);
        Check.parse(x, "a(1,B(C(F())),2)");
        Check.due("migrate()", 0, x.migrate());
        Check.dueLeft(x, "0000100");
        Check.parse(x, "a(F(),1,F())");
        Check.due("migrate()", 1, x.migrate());
        Check.dueProgram(x, "A(F(),4,F())");
        x.setNew(0, 2, 0);
        Check.parse(x, "a(1,2,F())");
        Check.due("migrate() with the source in an unused entry", 0, x.migrate());
        Check.dueLeft(x, "0000100");
        x.setNew(0, 0, 0);
        Check.due("migrate()", 0, x.migrate());
        Check.dueLeft(x, "0000100");
    }

    private static void reasonReorderedEffects() {
        CallMigrator x = new CallMigrator();
        effectSetting(x, 3, 3);
        x.setSource(0, 0, 2);
        x.setSource(0, 2, 0);
        Check.parse(x, "a(F(),1,F())");
        Check.due("migrate()", 0, x.migrate());
        Check.dueLeft(x, "0000010");
        Check.parse(x, "a(F(),F(),1)");
        Check.due("migrate()", 0, x.migrate());
        Check.dueLeft(x, "0000010");
        Check.parse(x, "a(1,2,F())");
        Check.due("migrate()", 1, x.migrate());
        Check.dueProgram(x, "A(F(),2,1)");
        x.setSource(0, 0, 1);
        x.setSource(0, 1, 0);
        x.setSource(0, 2, 2);
        Check.parse(x, "a(1,F(),F())");
        Check.due("migrate() with the effects in their order", 1, x.migrate());
        Check.dueProgram(x, "A(F(),1,F())");
    }

    private static void reasonTooManyNodes() {
        CallMigrator x = new CallMigrator();
        x.setNew(0, 4, 0);
        x.map(0, 0);
        for (int position = 1; position <= 3; position++) {
            x.setSource(0, position, 0);
        }
        Check.parse(x, "a(" + "B(".repeat(6) + "x" + ")".repeat(6) + ")");
        Check.due("migrate() to 29 nodes", 1, x.migrate());
        Check.due("nodes()", 29, x.nodes());
        Check.parse(x, "C(a(" + "B(".repeat(6) + "x" + ")".repeat(6) + "))");
        Check.due("migrate() to 30 nodes", 1, x.migrate());
        Check.due("nodes()", 30, x.nodes());
        Check.due("sites()", 0, x.sites());
        Check.parse(x, "D(C(a(" + "B(".repeat(6) + "x" + ")".repeat(6) + ")))");
        Check.due("migrate() to 31 nodes", 0, x.migrate());
        Check.dueLeft(x, "0000001");
        Check.due("nodes()", 10, x.nodes());
        x.setNew(0, 3, 0);
        Check.due("migrate() to 24 nodes", 1, x.migrate());
        Check.due("nodes()", 24, x.nodes());
    }

    private static void theOrderOfTheReasons() {
        CallMigrator x = new CallMigrator();
        effectSetting(x, 3, 4);
        // Repeated is 0, lost is 1, and the order of 2 and 0 is turned.
        x.setSource(0, 0, 2);
        x.setSource(0, 1, 0);
        x.setSource(0, 2, 0);
        String large = "B(".repeat(22) + "F()" + ")".repeat(22);
        Check.parse(x, "a(F(),F()," + large + ")");
        x.setOldTerm(0, 0, 1);
        Check.due("migrate()", 0, x.migrate());
        Check.dueLeft(x, "0010000");
        x.setOldTerm(0, 0, 0);
        x.setSource(0, 3, 2);
        Check.due("migrate()", 0, x.migrate());
        Check.dueLeft(x, "0001000");
        x.setConstant(0, 1, 0);
        Check.due("migrate()", 0, x.migrate());
        Check.dueLeft(x, "0001000");
        x.setConstant(0, 3, 0);
        Check.due("migrate()", 0, x.migrate());
        Check.dueLeft(x, "0000100");
        x.setSource(0, 1, 1);
        Check.due("migrate()", 0, x.migrate());
        Check.dueLeft(x, "0000010");
        x.setNew(5, 0, 0);
        x.setSource(0, 3, 2);
        Check.due("migrate()", 0, x.migrate());
        Check.dueLeft(x, "0000001");
    }

    private static void effectsAfterTheTreatment() {
        CallMigrator x = new CallMigrator();
        x.setOld(1, 0, 1);
        x.setNew(1, 0, 0);
        x.map(1, 1);
        x.setNew(0, 0, 0);
        x.setOld(0, 1, 0);
        x.map(0, 0);
        // b has an effect, but what it becomes has none.
        Check.parse(x, "a(b())");
        Check.due("migrate()", 2, x.migrate());
        Check.dueProgram(x, "A()");
        x.setOld(1, 0, 0);
        x.setNew(1, 0, 1);
        Check.parse(x, "a(b())");
        Check.due("migrate()", 1, x.migrate());
        Check.dueProgram(x, "a(B())");
        Check.dueLeft(x, "0000100");
        // A site that is left counts with the flag of its old function.
        x.unmap(1);
        Check.parse(x, "a(b())");
        Check.due("migrate()", 1, x.migrate());
        Check.dueProgram(x, "A()");
        Check.dueLeft(x, "0100000");
        x.setOld(1, 0, 1);
        Check.parse(x, "a(b())");
        Check.due("migrate()", 0, x.migrate());
        Check.dueLeft(x, "0100100");
        // The effects of the site's own functions do not count.
        x.setOld(0, 1, 1);
        x.setNew(0, 0, 1);
        Check.parse(x, "a(1)");
        Check.due("migrate()", 1, x.migrate());
        Check.dueProgram(x, "A()");
    }

    private static void sitesThatAreDroppedOrCopied() {
        CallMigrator x = new CallMigrator();
        x.setNew(0, 2, 0);
        x.map(0, 0);
        x.setSource(0, 1, 0);
        Check.parse(x, "a(b(x))");
        Check.due("migrate()", 1, x.migrate());
        Check.dueProgram(x, "A(b(x),b(x))");
        Check.dueLeft(x, "0100000");
        Check.due("sites()", 2, x.sites());
        Check.due("migrate()", 0, x.migrate());
        Check.dueLeft(x, "0200000");
    }

    private static void nodesGrowFromLeftToRight() {
        CallMigrator x = new CallMigrator();
        x.setNew(0, 4, 0);
        x.map(0, 0);
        x.setSource(0, 1, 0);
        x.setSource(0, 2, 0);
        x.setSource(0, 3, 0);
        x.setNew(1, 3, 0);
        String site = "a(C(C(C(x))))";
        String moved = "A(C(C(C(x))),C(C(C(x))),C(C(C(x))),C(C(C(x))))";
        Check.parse(x, "B(" + site + "," + site + ",a(1))");
        Check.due("migrate()", 2, x.migrate());
        Check.dueProgram(x, "B(" + moved + "," + site + ",A(1,1,1,1))");
        Check.dueLeft(x, "0000001");
        // A site that shrinks makes room for the ones behind it.
        x.setNew(2, 1, 0);
        x.setNew(3, 0, 0);
        x.map(1, 3);
        Check.parse(x, "B(b(C(C(x)))," + site + ",C(C(C(C(1)))))");
        Check.due("migrate()", 2, x.migrate());
        Check.due("nodes()", 24, x.nodes());
    }

    private static void leftBelongsToTheLatestMigration() {
        CallMigrator x = new CallMigrator();
        Check.parse(x, "a(b(1))");
        x.migrate();
        Check.dueLeft(x, "0200000");
        Check.parse(x, "1");
        Check.dueLeft(x, "0200000");
        x.map(0, 0);
        Check.dueLeft(x, "0200000");
        x.migrate();
        Check.dueLeft(x, "0000000");
        x.undo();
        Check.dueLeft(x, "0200000");
    }

    private static void wrongReasons() {
        CallMigrator x = new CallMigrator();
        int[] wrong = {0, 8, -1, Integer.MIN_VALUE, Integer.MAX_VALUE};
        int count = 0;
        for (int w : wrong) {
            Check.dueRefusal(x, "left(" + w + ")", -2, x.left(w), count++);
        }
        x.map(0, 0);
        Check.parse(x, "a(1)");
        x.migrate();
        Check.due("left(0) after a replacement", -2, x.left(0));
    }

    private static void migrateIsUndoable() {
        CallMigrator x = new CallMigrator();
        Check.parse(x, "a(1)");
        x.allowAdapters(1);
        long before = x.digest();
        Check.due("migrate()", 1, x.migrate());
        Check.due("migrate() that changes nothing", 0, x.migrate());
        Check.due("undo()", 3, x.undo());
        Check.dueProgram(x, "p(1)");
        Check.due("undo()", 2, x.undo());
        Check.dueProgram(x, "a(1)");
        Check.due("digest()", before, x.digest());
    }

    private static void constantsAreNodes() {
        CallMigrator x = new CallMigrator();
        x.setNew(0, 3, 0);
        x.map(0, 0);
        x.setConstant(0, 0, 8);
        x.setSource(0, 1, 0);
        x.setConstant(0, 2, 9);
        Check.parse(x, "a(a(a(x)))");
        Check.due("migrate()", 3, x.migrate());
        Check.dueProgram(x, "A(8,A(8,A(8,x,9),9),9)");
        x.setNew(2, 3, 0);
        Check.parse(x, "C(a(1),3,a(a(2)))");
        Check.due("migrate()", 3, x.migrate());
        Check.dueProgram(x, "C(A(8,1,9),3,A(8,A(8,2,9),9))");
        Check.parse(x, "B(".repeat(26) + "a(x)" + ")".repeat(26));
        Check.due("migrate() to 30 nodes", 1, x.migrate());
        Check.due("nodes()", 30, x.nodes());
        Check.parse(x, "B(".repeat(27) + "a(x)" + ")".repeat(27));
        Check.due("migrate() to 31 nodes", 0, x.migrate());
        Check.dueLeft(x, "0000001");
        Check.due("nodes()", 29, x.nodes());
    }

    private static void eachSiteHasItsOwnEffects() {
        CallMigrator x = new CallMigrator();
        effectSetting(x, 3, 3);
        x.setNew(1, 3, 0);
        x.map(1, 2);
        x.setOld(3, 2, 0);
        x.map(3, 3);
        Check.parse(x, "B(a(F(),F(),F()),b(x),d(1,2))");
        Check.due("migrate()", 3, x.migrate());
        Check.dueProgram(x, "B(A(F(),F(),F()),C(x),D(1))");
    }
}
