/** Promises 6 to 12: mappings, their faithfulness, and adapters. */
public final class MappingsTest {
    private MappingsTest() {
    }

    public static void main(String[] args) {
        mapGivesTheFirstTemplate();
        mapKeepsTheTemplate();
        unmapRemovesTheTemplate();
        wrongCallsOfMapAndUnmap();
        sourcesBelowTheArity();
        unusedEntriesDoNotCount();
        constantsCountModulo1000();
        coefficientsOfASourceAreAdded();
        coefficientsBeyondTheArityDoNotCount();
        wrongEntries();
        wrongQuestions();
        theSettingOfAdapters();
        adaptersGetTheNextNumbers();
        anAdapterStaysAsItIs();
        fourAdaptersAtMost();
        theFirstEntryCounts();
        Check.finish();
    }

    private static void mapGivesTheFirstTemplate() {
        CallMigrator x = new CallMigrator();
        x.setOld(0, 3, 0);
        x.setNew(1, 4, 0);
        Check.due("map(0, 1)", 1, x.map(0, 1));
        Check.due("isFaithful(0)", 1, x.isFaithful(0));
        Check.due("isFaithful(1)", -3, x.isFaithful(1));
        Check.parse(x, "a(7,8,9)");
        Check.due("migrate()", 1, x.migrate());
        Check.dueProgram(x, "B(7,8,9,0)");
        x.setOld(0, 2, 0);
        Check.due("isFaithful(0)", 0, x.isFaithful(0));
        Check.due("map(0, 1)", 0, x.map(0, 1));
    }

    private static void mapKeepsTheTemplate() {
        CallMigrator x = new CallMigrator();
        x.setOld(5, 2, 0);
        x.setNew(0, 2, 0);
        x.setNew(5, 2, 0);
        Check.due("map(5, 0)", 1, x.map(5, 0));
        Check.due("setSource(5, 0, 1)", 1, x.setSource(5, 0, 1));
        Check.due("setConstant(5, 1, 42)", 1, x.setConstant(5, 1, 42));
        Check.due("map(5, 5)", 1, x.map(5, 5));
        Check.parse(x, "f(x,y)");
        Check.due("migrate()", 1, x.migrate());
        Check.dueProgram(x, "F(y,42)");
        x.undo();
        x.undo();
        Check.due("undo()", 1, x.undo());
        Check.due("unmap(5)", 0, x.unmap(5));
    }

    private static void unmapRemovesTheTemplate() {
        CallMigrator x = new CallMigrator();
        x.map(0, 3);
        x.setConstant(0, 0, 5);
        Check.due("unmap(0)", 3, x.unmap(0));
        Check.due("unmap(0)", -3, x.unmap(0));
        Check.due("isFaithful(0)", -3, x.isFaithful(0));
        Check.due("map(0, 2)", 1, x.map(0, 2));
        Check.parse(x, "a(y)");
        x.migrate();
        Check.dueProgram(x, "C(y)");
        x.undo();
        x.undo();
        x.undo();
        Check.due("undo()", 0, x.undo());
        Check.due("unmap(0)", 3, x.unmap(0));
    }

    private static void wrongCallsOfMapAndUnmap() {
        CallMigrator x = new CallMigrator();
        int[] wrong = {-1, 6, Integer.MIN_VALUE, Integer.MAX_VALUE};
        int count = 0;
        for (int w : wrong) {
            Check.dueRefusal(x, "map(" + w + ", 0)", -2, x.map(w, 0), count++);
            Check.dueRefusal(x, "map(0, " + w + ")", -2, x.map(0, w), count++);
            Check.dueRefusal(x, "unmap(" + w + ")", -2, x.unmap(w), count++);
        }
        for (int f = 0; f < 6; f++) {
            Check.dueRefusal(x, "unmap(" + f + ")", -3, x.unmap(f), f);
        }
        Check.due("undo()", -5, x.undo());
        Check.due("map(5, 5)", 1, x.map(5, 5));
        Check.due("unmap(5)", 5, x.unmap(5));
        Check.due("undo()", 1, x.undo());
    }

    private static void sourcesBelowTheArity() {
        CallMigrator x = new CallMigrator();
        x.setOld(0, 2, 0);
        x.setNew(0, 3, 0);
        Check.due("map(0, 0)", 0, x.map(0, 0));
        Check.due("setSource(0, 2, 1)", 1, x.setSource(0, 2, 1));
        Check.due("setSource(0, 2, 2)", 0, x.setSource(0, 2, 2));
        Check.due("setConstant(0, 2, 2)", 1, x.setConstant(0, 2, 2));
        x.setOld(0, 1, 0);
        Check.due("isFaithful(0)", 0, x.isFaithful(0));
        x.setOld(0, 3, 0);
        Check.due("isFaithful(0)", 1, x.isFaithful(0));
        x.setOld(0, 0, 0);
        x.setNew(0, 0, 0);
        Check.due("isFaithful(0)", 1, x.isFaithful(0));
    }

    private static void unusedEntriesDoNotCount() {
        CallMigrator x = new CallMigrator();
        x.setNewTerm(0, 1, 9);
        x.setNewTerm(0, 3, 9);
        Check.due("map(0, 0)", 1, x.map(0, 0));
        Check.due("setSource(0, 1, 2)", 1, x.setSource(0, 1, 2));
        Check.due("setConstant(0, 1, 5)", 1, x.setConstant(0, 1, 5));
        Check.due("setSource(0, 3, 0)", 1, x.setSource(0, 3, 0));
        Check.due("setSource(0, 1, 0)", 1, x.setSource(0, 1, 0));
        Check.due("setConstant(0, 1, 5)", 1, x.setConstant(0, 1, 5));
        x.setNew(0, 2, 0);
        Check.due("isFaithful(0)", 0, x.isFaithful(0));
        x.setOldTerm(0, -1, 45);
        Check.due("isFaithful(0)", 1, x.isFaithful(0));
    }

    private static void constantsCountModulo1000() {
        CallMigrator x = new CallMigrator();
        x.setNew(0, 2, 0);
        x.setNewTerm(0, -1, 10);
        x.setNewTerm(0, 1, 40);
        x.setOldTerm(0, -1, 10);
        Check.due("map(0, 0)", 0, x.map(0, 0));
        Check.due("setConstant(0, 1, 24)", 0, x.setConstant(0, 1, 24));
        Check.due("setConstant(0, 1, 25)", 1, x.setConstant(0, 1, 25));
        Check.due("setConstant(0, 1, 75)", 1, x.setConstant(0, 1, 75));
        Check.due("setConstant(0, 1, 0)", 1, x.setConstant(0, 1, 0));
        Check.due("setConstant(0, 1, 99)", 0, x.setConstant(0, 1, 99));
        x.setOldTerm(0, -1, 70);
        Check.due("isFaithful(0)", 0, x.isFaithful(0));
        x.setNewTerm(0, -1, 10);
        Check.due("setConstant(0, 1, 26)", 0, x.setConstant(0, 1, 26));
        x.setOldTerm(0, -1, 50);
        Check.due("isFaithful(0)", 1, x.isFaithful(0));
        x.setNewTerm(0, -1, 11);
        Check.due("isFaithful(0)", 0, x.isFaithful(0));
    }

    private static void coefficientsOfASourceAreAdded() {
        CallMigrator x = new CallMigrator();
        x.setOld(1, 2, 0);
        x.setOldTerm(1, 0, 60);
        x.setOldTerm(1, 1, 5);
        x.setNew(2, 4, 0);
        x.setNewTerm(2, 0, 20);
        x.setNewTerm(2, 1, 5);
        x.setNewTerm(2, 2, 30);
        x.setNewTerm(2, 3, 10);
        Check.due("map(1, 2)", 0, x.map(1, 2));
        Check.due("setSource(1, 2, 0)", 0, x.setSource(1, 2, 0));
        Check.due("setSource(1, 3, 0)", 1, x.setSource(1, 3, 0));
        Check.due("setSource(1, 1, 0)", 0, x.setSource(1, 1, 0));
        x.setOldTerm(1, 0, 65);
        Check.due("isFaithful(1)", 0, x.isFaithful(1));
        x.setOldTerm(1, 1, 0);
        Check.due("isFaithful(1)", 1, x.isFaithful(1));
    }

    private static void coefficientsBeyondTheArityDoNotCount() {
        CallMigrator x = new CallMigrator();
        x.setOldTerm(0, 1, 5);
        x.setOldTerm(0, 3, 5);
        Check.due("map(0, 0)", 1, x.map(0, 0));
        x.setOld(0, 2, 0);
        Check.due("isFaithful(0)", 0, x.isFaithful(0));
    }

    private static void wrongEntries() {
        CallMigrator x = new CallMigrator();
        Check.dueRefusal(x, "setSource(0, 0, 0)", -3, x.setSource(0, 0, 0), 0);
        Check.dueRefusal(x, "setConstant(0, 0, 0)", -3, x.setConstant(0, 0, 0), 1);
        int[][] wrong = {{-1, 0, 0}, {6, 0, 0}, {0, -1, 0}, {0, 4, 0}, {0, 0, -1}, {0, 0, 100},
            {Integer.MIN_VALUE, 0, 0}, {Integer.MAX_VALUE, 0, 0}, {0, Integer.MIN_VALUE, 0},
            {0, Integer.MAX_VALUE, 0}, {0, 0, Integer.MIN_VALUE}, {0, 0, Integer.MAX_VALUE}};
        int count = 0;
        for (int round = 0; round < 2; round++) {
            for (int[] w : wrong) {
                String arguments = "(" + w[0] + ", " + w[1] + ", " + w[2] + ")";
                Check.dueRefusal(x, "setSource" + arguments, -2, x.setSource(w[0], w[1], w[2]), count++);
                Check.dueRefusal(x, "setConstant" + arguments, -2, x.setConstant(w[0], w[1], w[2]), count++);
            }
            Check.dueRefusal(x, "setSource(0, 0, 3)", -2, x.setSource(0, 0, 3), count++);
            Check.due("map(0, 0)", 1, x.map(0, 0));
        }
        Check.due("setSource(0, 3, 2)", 1, x.setSource(0, 3, 2));
        Check.due("setConstant(0, 3, 99)", 1, x.setConstant(0, 3, 99));
        Check.due("undo()", 3, x.undo());
        Check.due("undo()", 2, x.undo());
    }

    private static void wrongQuestions() {
        CallMigrator x = new CallMigrator();
        int[] wrong = {-1, 6, Integer.MIN_VALUE, Integer.MAX_VALUE};
        int count = 0;
        for (int w : wrong) {
            Check.dueRefusal(x, "isFaithful(" + w + ")", -2, x.isFaithful(w), count++);
            Check.dueRefusal(x, "adapterOf(" + w + ")", -2, x.adapterOf(w), count++);
        }
        Check.dueRefusal(x, "isFaithful(5)", -3, x.isFaithful(5), 0);
        Check.dueRefusal(x, "adapterOf(5)", -3, x.adapterOf(5), 1);
        x.map(5, 0);
        Check.due("isFaithful(5)", 1, x.isFaithful(5));
        Check.due("undo()", 0, x.undo());
    }

    private static void theSettingOfAdapters() {
        CallMigrator x = new CallMigrator();
        Check.due("allowAdapters(1)", 0, x.allowAdapters(1));
        Check.due("allowAdapters(1)", 1, x.allowAdapters(1));
        Check.due("allowAdapters(0)", 1, x.allowAdapters(0));
        Check.dueRefusal(x, "allowAdapters(2)", -2, x.allowAdapters(2), 0);
        Check.dueRefusal(x, "allowAdapters(-1)", -2, x.allowAdapters(-1), 1);
        Check.dueRefusal(x, "allowAdapters(MIN)", -2, x.allowAdapters(Integer.MIN_VALUE), 2);
        Check.dueRefusal(x, "allowAdapters(MAX)", -2, x.allowAdapters(Integer.MAX_VALUE), 3);
        Check.due("undo()", 2, x.undo());
        Check.due("allowAdapters(0)", 1, x.allowAdapters(0));
    }

    private static void adaptersGetTheNextNumbers() {
        CallMigrator x = new CallMigrator();
        x.setOld(4, 2, 0);
        x.allowAdapters(1);
        Check.parse(x, "e(c(x),f(c(y)))");
        Check.due("migrate()", 4, x.migrate());
        Check.dueProgram(x, "r(p(x),q(p(y)))");
        Check.due("adapterOf(2)", 0, x.adapterOf(2));
        Check.due("adapterOf(5)", 1, x.adapterOf(5));
        Check.due("adapterOf(4)", 2, x.adapterOf(4));
        Check.due("adapterOf(0)", -3, x.adapterOf(0));
        x.allowAdapters(0);
        Check.parse(x, "c(p(q(1)))");
        Check.due("migrate()", 0, x.migrate());
        Check.dueLeft(x, "0100000");
        Check.due("adapterOf(2)", 0, x.adapterOf(2));
    }

    private static void anAdapterStaysAsItIs() {
        CallMigrator x = new CallMigrator();
        x.setOld(0, 2, 1);
        x.setOldTerm(0, -1, 1);
        x.setOldTerm(0, 0, 10);
        x.setOldTerm(0, 1, 20);
        x.setOldTerm(0, 2, 30);
        x.allowAdapters(1);
        Check.parse(x, "a(1,2)");
        Check.due("migrate()", 1, x.migrate());
        Check.due("value(0, 0)", 51, x.value(0, 0));
        x.setOld(0, 3, 0);
        x.setOldTerm(0, -1, 99);
        x.setOldTerm(0, 0, 99);
        Check.due("value(0, 0)", 51, x.value(0, 0));
        Check.due("parse()", 3, Check.parse(x, "p(3,4)"));
        Check.dueSyntaxError(x, "p(3,4,5)", 5);
        // A site with the arity of now gets the adapter of then, and all its arguments count.
        Check.due("parse()", 4, Check.parse(x, "a(1,2,3)"));
        Check.due("migrate()", 1, x.migrate());
        Check.dueProgram(x, "p(1,2,3)");
        Check.due("value(0, 0)", 141, x.value(0, 0));
        // The adapter kept the effect flag, which the old function has lost.
        x.setNew(0, 1, 0);
        x.map(1, 0);
        x.setConstant(1, 0, 0);
        Check.parse(x, "b(p(1,2))");
        Check.due("migrate()", 0, x.migrate());
        Check.dueLeft(x, "0000100");
    }

    private static void fourAdaptersAtMost() {
        CallMigrator x = new CallMigrator();
        x.map(5, 5);
        x.setConstant(5, 0, 1);
        x.setNewTerm(5, 0, 1);
        x.allowAdapters(1);
        Check.parse(x, "f(e(d(c(b(a(x))))))");
        Check.due("migrate()", 4, x.migrate());
        Check.dueProgram(x, "f(e(s(r(q(p(x))))))");
        Check.dueLeft(x, "0110000");
        Check.due("adapterOf(3)", 3, x.adapterOf(3));
        Check.due("adapterOf(4)", -3, x.adapterOf(4));
        Check.parse(x, "a(e(d(f(s(1)))))");
        Check.due("migrate()", 2, x.migrate());
        Check.dueProgram(x, "p(e(s(f(s(1)))))");
        for (int n = 3; n >= 1; n--) {
            Check.due("undo()", n, x.undo());
        }
        Check.due("adapterOf(0)", -3, x.adapterOf(0));
        Check.dueSyntaxError(x, "p(x)", 0);
    }

    private static void theFirstEntryCounts() {
        CallMigrator x = new CallMigrator();
        x.setOld(5, 0, 0);
        Check.due("map(5, 5)", 0, x.map(5, 5));
        Check.due("setConstant(5, 0, 3)", 1, x.setConstant(5, 0, 3));
        x.setNew(5, 4, 0);
        x.setConstant(5, 1, 4);
        Check.due("setConstant(5, 2, 5)", 1, x.setConstant(5, 2, 5));
        Check.due("setConstant(5, 3, 66)", 1, x.setConstant(5, 3, 66));
        Check.parse(x, "f()");
        x.migrate();
        Check.dueProgram(x, "F(3,4,5,66)");
        Check.due("setSource(5, 3, 0)", 0, x.setSource(5, 3, 0));
        x.setOld(5, 1, 0);
        Check.parse(x, "f(y)");
        x.migrate();
        Check.dueProgram(x, "F(3,4,5,y)");
    }
}
