/** Promises 1 to 5: a new object, and the setting of functions. */
public final class FunctionsTest {
    private FunctionsTest() {
    }

    public static void main(String[] args) {
        aNewObject();
        aNewObjectsFunctions();
        objectsAreApart();
        oldShapes();
        newShapes();
        oldTerms();
        newTerms();
        oldAndNewAreApart();
        shapesOutOfRange();
        termsOutOfRange();
        Check.finish();
    }

    private static void aNewObject() {
        CallMigrator x = new CallMigrator();
        Check.dueProgram(x, "0");
        Check.due("nodes()", 1, x.nodes());
        Check.due("sites()", 0, x.sites());
        Check.due("value(999, 999)", 0, x.value(999, 999));
        Check.dueLeft(x, "0000000");
        for (int f = 0; f < 6; f++) {
            Check.due("isFaithful(" + f + ")", CallMigrator.MISSING, x.isFaithful(f));
            Check.due("adapterOf(" + f + ")", CallMigrator.MISSING, x.adapterOf(f));
        }
        Check.due("clearText()", 0, x.clearText());
        Check.due("parse() of the empty text", -10, x.parse());
        Check.due("undo()", CallMigrator.NOTHING_SAVED, x.undo());
        Check.due("allowAdapters(0)", 0, x.allowAdapters(0));
    }

    private static void aNewObjectsFunctions() {
        CallMigrator x = new CallMigrator();
        for (int f = 0; f < 6; f++) {
            for (int position = -1; position <= 3; position++) {
                Check.due("setOldTerm(" + f + ", " + position + ", 0)", 0, x.setOldTerm(f, position, 0));
                Check.due("setNewTerm(" + f + ", " + position + ", 0)", 0, x.setNewTerm(f, position, 0));
            }
            Check.due("setOld(" + f + ", 1, 0)", 1, x.setOld(f, 1, 0));
            Check.due("setNew(" + f + ", 1, 0)", 1, x.setNew(f, 1, 0));
        }
        for (int n = 3; n >= 0; n--) {
            Check.due("undo()", n, x.undo());
        }
        Check.due("digest()", new CallMigrator().digest(), x.digest());
    }

    private static void objectsAreApart() {
        CallMigrator x = new CallMigrator();
        CallMigrator y = new CallMigrator();
        long before = y.digest();
        x.setOld(0, 3, 1);
        x.append('x');
        x.map(1, 2);
        x.undo();
        x.left(0);
        Check.due("digest() of another object", before, y.digest());
        Check.due("setOld(0, 1, 0) of another object", 1, y.setOld(0, 1, 0));
    }

    private static void oldShapes() {
        CallMigrator x = new CallMigrator();
        Check.due("setOld(0, 0, 0)", 1, x.setOld(0, 0, 0));
        Check.due("setOld(0, 3, 1)", 0, x.setOld(0, 3, 1));
        Check.due("setOld(0, 2, 0)", 3, x.setOld(0, 2, 0));
        Check.due("setOld(5, 3, 0)", 1, x.setOld(5, 3, 0));
        Check.due("parse()", 6, Check.parse(x, "a(f(1,2,3),4)"));
        Check.due("undo()", 3, x.undo());
        Check.due("setOld(5, 0, 0)", 3, x.setOld(5, 0, 0));
        Check.due("parse()", 3, Check.parse(x, "a(f(),4)"));
        Check.dueProgram(x, "a(f(),4)");
    }

    private static void newShapes() {
        CallMigrator x = new CallMigrator();
        Check.due("setNew(0, 0, 0)", 1, x.setNew(0, 0, 0));
        Check.due("setNew(0, 4, 1)", 0, x.setNew(0, 4, 1));
        Check.due("setNew(0, 2, 0)", 4, x.setNew(0, 2, 0));
        Check.due("setNew(5, 4, 0)", 1, x.setNew(5, 4, 0));
        Check.due("parse()", 7, Check.parse(x, "A(F(1,2,3,x),4)"));
        Check.due("undo()", 3, x.undo());
        Check.due("undo()", 2, x.undo());
        Check.due("setNew(5, 1, 0)", 1, x.setNew(5, 1, 0));
    }

    private static void oldTerms() {
        CallMigrator x = new CallMigrator();
        Check.due("setOld(2, 3, 0)", 1, x.setOld(2, 3, 0));
        Check.due("setOldTerm(2, -1, 7)", 0, x.setOldTerm(2, -1, 7));
        Check.due("setOldTerm(2, 0, 1)", 0, x.setOldTerm(2, 0, 1));
        Check.due("setOldTerm(2, 1, 10)", 0, x.setOldTerm(2, 1, 10));
        Check.due("setOldTerm(2, 2, 99)", 0, x.setOldTerm(2, 2, 99));
        Check.due("setOldTerm(2, 3, 50)", 0, x.setOldTerm(2, 3, 50));
        Check.due("parse()", 4, Check.parse(x, "c(1,2,3)"));
        Check.due("value(0, 0)", 325, x.value(0, 0));
        Check.due("setOldTerm(2, 2, 0)", 99, x.setOldTerm(2, 2, 0));
        Check.due("value(0, 0)", 28, x.value(0, 0));
        Check.due("setOldTerm(2, 3, 0)", 50, x.setOldTerm(2, 3, 0));
        Check.due("undo()", 3, x.undo());
        Check.due("setOldTerm(2, 3, 1)", 50, x.setOldTerm(2, 3, 1));
        Check.due("setOldTerm(2, -1, 0)", 7, x.setOldTerm(2, -1, 0));
        Check.due("setOldTerm(2, 0, 0)", 1, x.setOldTerm(2, 0, 0));
        Check.due("setOldTerm(2, 1, 0)", 10, x.setOldTerm(2, 1, 0));
    }

    private static void newTerms() {
        CallMigrator x = new CallMigrator();
        Check.due("setNew(5, 4, 0)", 1, x.setNew(5, 4, 0));
        Check.due("setNewTerm(5, -1, 99)", 0, x.setNewTerm(5, -1, 99));
        Check.due("setNewTerm(5, 0, 1)", 0, x.setNewTerm(5, 0, 1));
        Check.due("setNewTerm(5, 1, 2)", 0, x.setNewTerm(5, 1, 2));
        Check.due("setNewTerm(5, 2, 3)", 0, x.setNewTerm(5, 2, 3));
        Check.due("setNewTerm(5, 3, 4)", 0, x.setNewTerm(5, 3, 4));
        Check.due("parse()", 5, Check.parse(x, "F(1,1,1,1)"));
        Check.due("value(0, 0)", 109, x.value(0, 0));
        Check.due("setNewTerm(5, 3, 0)", 4, x.setNewTerm(5, 3, 0));
        Check.due("value(0, 0)", 105, x.value(0, 0));
        Check.due("undo()", 3, x.undo());
        Check.due("value(0, 0)", 109, x.value(0, 0));
    }

    private static void oldAndNewAreApart() {
        CallMigrator x = new CallMigrator();
        x.setOld(3, 2, 1);
        x.setOldTerm(3, 0, 8);
        Check.due("setNewTerm(3, 0, 9)", 0, x.setNewTerm(3, 0, 9));
        Check.due("setNew(3, 0, 0)", 1, x.setNew(3, 0, 0));
        Check.due("setOld(3, 2, 1)", 2, x.setOld(3, 2, 1));
        Check.due("setOldTerm(3, 0, 8)", 8, x.setOldTerm(3, 0, 8));
        Check.due("setOldTerm(2, 0, 8)", 0, x.setOldTerm(2, 0, 8));
        Check.due("setOldTerm(4, 0, 8)", 0, x.setOldTerm(4, 0, 8));
    }

    private static void shapesOutOfRange() {
        CallMigrator x = new CallMigrator();
        int[][] wrong = {
            {-1, 0, 0}, {6, 0, 0}, {0, -1, 0}, {0, 5, 0}, {0, 0, -1}, {0, 0, 2},
            {Integer.MIN_VALUE, 0, 0}, {Integer.MAX_VALUE, 0, 0}, {0, Integer.MIN_VALUE, 0},
            {0, Integer.MAX_VALUE, 0}, {0, 0, Integer.MIN_VALUE}, {0, 0, Integer.MAX_VALUE}};
        int count = 0;
        for (int[] w : wrong) {
            String arguments = "(" + w[0] + ", " + w[1] + ", " + w[2] + ")";
            Check.dueRefusal(x, "setOld" + arguments, -2, x.setOld(w[0], w[1], w[2]), count++);
            Check.dueRefusal(x, "setNew" + arguments, -2, x.setNew(w[0], w[1], w[2]), count++);
        }
        Check.dueRefusal(x, "setOld(0, 4, 0)", -2, x.setOld(0, 4, 0), count++);
        Check.due("setNew(0, 4, 0)", 1, x.setNew(0, 4, 0));
        Check.due("undo()", 0, x.undo());
        Check.due("undo()", -5, x.undo());
        Check.due("setOld(0, 1, 0)", 1, x.setOld(0, 1, 0));
    }

    private static void termsOutOfRange() {
        CallMigrator x = new CallMigrator();
        int[][] wrong = {
            {-1, 0, 0}, {6, 0, 0}, {0, -2, 0}, {0, 4, 0}, {0, 0, -1}, {0, 0, 100},
            {Integer.MIN_VALUE, 0, 0}, {Integer.MAX_VALUE, 0, 0}, {0, Integer.MIN_VALUE, 0},
            {0, Integer.MAX_VALUE, 0}, {0, 0, Integer.MIN_VALUE}, {0, 0, Integer.MAX_VALUE}};
        int count = 0;
        for (int[] w : wrong) {
            String arguments = "(" + w[0] + ", " + w[1] + ", " + w[2] + ")";
            Check.dueRefusal(x, "setOldTerm" + arguments, -2, x.setOldTerm(w[0], w[1], w[2]), count++);
            Check.dueRefusal(x, "setNewTerm" + arguments, -2, x.setNewTerm(w[0], w[1], w[2]), count++);
        }
        Check.due("undo()", -5, x.undo());
    }
}
