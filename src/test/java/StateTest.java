/** Promises 22 to 24: undo, the counters of errors, and the digest. */
public final class StateTest {
    private StateTest() {
    }

    public static void main(String[] args) {
        undoOfEachMethod();
        fourStatesAtMost();
        savedStatesStayAsTheyAre();
        whatUndoLeaves();
        refusedCallsSaveNothing();
        counters();
        digestOfANewObject();
        digestOfAStateInFull();
        digestsTellStatesApart();
        constantsAndReasonsComeBack();
        Check.finish();
    }

    private static void undoOfEachMethod() {
        for (int method = 0; method < 11; method++) {
            CallMigrator x = new CallMigrator();
            x.map(0, 0);
            Check.parse(x, "a(b(x))");
            long before = x.digest();
            change(x, method);
            Check.due("whether method " + method + " shows in the digest", 1, x.digest() != before ? 1 : 0);
            Check.due("undo() of method " + method, 2, x.undo());
            Check.due("digest() after undo() of method " + method, before, x.digest());
            Check.due("migrate() after undo() of method " + method, 1, x.migrate());
            Check.dueProgram(x, "A(b(x))");
        }
    }

    private static void change(CallMigrator x, int method) {
        switch (method) {
            case 0: x.setOld(0, 3, 1); break;
            case 1: x.setNew(0, 4, 1); break;
            case 2: x.setOldTerm(0, -1, 4); break;
            case 3: x.setNewTerm(0, 0, 4); break;
            case 4: x.map(0, 3); break;
            case 5: x.unmap(0); break;
            case 6: x.setSource(0, 0, 2); break;
            case 7: x.setConstant(0, 0, 2); break;
            case 8: x.allowAdapters(1); break;
            case 9: x.parse(); break;
            default: x.migrate(); break;
        }
    }

    private static void fourStatesAtMost() {
        CallMigrator x = new CallMigrator();
        for (int value = 1; value <= 6; value++) {
            x.setOldTerm(0, 0, value);
        }
        for (int n = 3; n >= 0; n--) {
            Check.due("undo()", n, x.undo());
        }
        Check.dueRefusal(x, "undo()", -5, x.undo(), 0);
        Check.due("setOldTerm(0, 0, 9)", 2, x.setOldTerm(0, 0, 9));
        Check.due("undo()", 0, x.undo());
        Check.dueRefusal(x, "undo()", -5, x.undo(), 1);
    }

    private static void savedStatesStayAsTheyAre() {
        CallMigrator x = new CallMigrator();
        x.setOldTerm(0, 0, 1);
        x.setOldTerm(0, 0, 2);
        x.setOldTerm(0, 0, 3);
        Check.due("undo()", 2, x.undo());
        x.setOldTerm(0, 0, 4);
        x.setOldTerm(0, 0, 5);
        x.setOldTerm(0, 0, 6);
        int[] want = {5, 4, 2, 1};
        for (int i = 0; i < 4; i++) {
            Check.due("undo()", 3 - i, x.undo());
            Check.due("setOldTerm(0, 0, 0)", want[i], x.setOldTerm(0, 0, 0));
            Check.due("undo()", 3 - i, x.undo());
        }
    }

    private static void whatUndoLeaves() {
        CallMigrator x = new CallMigrator();
        x.append('x');
        x.parse();
        x.append(-1);
        x.append('y');
        Check.due("undo()", 0, x.undo());
        Check.due("errorCount(-2)", 1, x.errorCount(-2));
        Check.due("clearText()", 2, x.clearText());
    }

    private static void refusedCallsSaveNothing() {
        CallMigrator x = new CallMigrator();
        x.setOld(6, 0, 0);
        x.setNew(6, 0, 0);
        x.setOldTerm(6, 0, 0);
        x.setNewTerm(6, 0, 0);
        x.map(6, 0);
        x.unmap(6);
        x.unmap(0);
        x.setSource(0, 0, 0);
        x.setSource(0, 0, 9);
        x.setConstant(0, 0, 0);
        x.setConstant(0, 9, 0);
        x.allowAdapters(2);
        x.parse();
        Check.due("undo()", -5, x.undo());
        Check.due("errorCount(-2)", 9, x.errorCount(-2));
        Check.due("errorCount(-3)", 3, x.errorCount(-3));
        Check.due("errorCount(-4)", 0, x.errorCount(-4));
        Check.due("errorCount(-5)", 1, x.errorCount(-5));
    }

    private static void counters() {
        CallMigrator x = new CallMigrator();
        for (int code = -5; code <= -2; code++) {
            Check.due("errorCount(" + code + ")", 0, x.errorCount(code));
        }
        int[] wrong = {-1, -6, 0, 2, Integer.MIN_VALUE, Integer.MAX_VALUE};
        for (int i = 0; i < wrong.length; i++) {
            Check.dueRefusal(x, "errorCount(" + wrong[i] + ")", -2, x.errorCount(wrong[i]), i);
        }
        x.undo();
        x.undo();
        x.unmap(0);
        for (int i = 0; i < 123; i++) {
            x.append('(');
        }
        Check.due("errorCount(-5)", 2, x.errorCount(-5));
        Check.due("errorCount(-4)", 3, x.errorCount(-4));
        Check.due("errorCount(-3)", 1, x.errorCount(-3));
        Check.due("errorCount(-2)", 6, x.errorCount(-2));
    }

    private static long hash(int... values) {
        long h = 2683;
        for (int v : values) {
            h = 31 * h + v;
        }
        return h;
    }

    private static void digestOfANewObject() {
        CallMigrator x = new CallMigrator();
        int[] values = new int[5 + 12 * 7 + 12 + 1 + 1 + 1 + 7 + 1];
        for (int f = 0; f < 12; f++) {
            values[5 + 7 * f] = 1;
        }
        for (int f = 0; f < 6; f++) {
            values[5 + 84 + 2 * f + 1] = -1;
        }
        values[5 + 84 + 12 + 1] = '0';
        Check.due("digest()", hash(values), x.digest());
        Check.due("digest() again", hash(values), x.digest());
    }

    private static void digestOfAStateInFull() {
        CallMigrator x = new CallMigrator();
        x.setOld(0, 2, 1);
        x.setOldTerm(0, -1, 11);
        x.setOldTerm(0, 0, 12);
        x.setOldTerm(0, 1, 13);
        x.setOldTerm(0, 2, 14);
        x.setOldTerm(0, 3, 15);
        x.setNew(5, 3, 1);
        x.setNewTerm(5, -1, 21);
        x.setNewTerm(5, 0, 22);
        x.setNewTerm(5, 1, 23);
        x.setNewTerm(5, 2, 24);
        x.setNewTerm(5, 3, 25);
        x.map(1, 1);
        x.map(2, 5);
        x.allowAdapters(1);
        Check.parse(x, "d(a(x,b(7)))");
        x.migrate();
        x.allowAdapters(0);
        Check.parse(x, "c(f(p(1,2)))");
        x.migrate();
        x.left(0);
        x.left(8);
        x.unmap(0);
        Check.due("digest()", hash(
            2, 1, 0, 0, 12,
            2, 1, 11, 12, 13, 14, 15, 1, 0, 0, 0, 0, 0, 0, 1, 0, 0, 0, 0, 0, 0,
            1, 0, 0, 0, 0, 0, 0, 1, 0, 0, 0, 0, 0, 0, 1, 0, 0, 0, 0, 0, 0,
            1, 0, 0, 0, 0, 0, 0, 1, 0, 0, 0, 0, 0, 0, 1, 0, 0, 0, 0, 0, 0,
            1, 0, 0, 0, 0, 0, 0, 1, 0, 0, 0, 0, 0, 0, 3, 1, 21, 22, 23, 24, 25,
            0, 0, 2, -1, 1, -1, 0, 1, 0, -1, 0, -1,
            0,
            'c', '(', 'f', '(', 'p', '(', '1', ',', '2', ')', ')', ')',
            2,
            0, 1, 1, 0, 0, 0, 0,
            4), x.digest());
    }

    private static void digestsTellStatesApart() {
        CallMigrator x = new CallMigrator();
        long empty = x.digest();
        x.append('1');
        Check.due("whether the length of the text counts", 1, x.digest() != empty ? 1 : 0);
        x.clearText();
        Check.due("digest()", empty, x.digest());
        x.left(9);
        Check.due("whether the counters count", 1, x.digest() != empty ? 1 : 0);
    }

    private static void constantsAndReasonsComeBack() {
        CallMigrator x = new CallMigrator();
        x.map(0, 0);
        x.setConstant(0, 0, 5);
        x.setConstant(0, 0, 6);
        x.undo();
        Check.parse(x, "a(x)");
        x.migrate();
        Check.dueProgram(x, "A(5)");
        for (int reason = 1; reason <= 7; reason++) {
            CallMigrator y = new CallMigrator();
            leaveFor(y, reason);
            String want = "0000000".substring(1, reason) + "1" + "0000000".substring(reason);
            Check.dueLeft(y, want);
            Check.parse(y, "1");
            y.migrate();
            Check.dueLeft(y, "0000000");
            y.undo();
            Check.dueLeft(y, want);
        }
    }

    private static void leaveFor(CallMigrator x, int reason) {
        x.setOld(0, 2, 0);
        x.setNew(0, 4, 0);
        x.setNew(5, 0, reason == 7 ? 0 : 1);
        if (reason != 2) {
            x.map(0, 0);
            x.setConstant(0, 2, 0);
        }
        switch (reason) {
            case 3: x.setNewTerm(0, -1, 1); break;
            case 4: x.setSource(0, 3, 1); break;
            case 5: x.setConstant(0, 1, 1); break;
            case 6: x.setSource(0, 0, 1); x.setSource(0, 1, 0); break;
            case 7: x.setSource(0, 2, 0); x.setSource(0, 3, 0); break;
            default: break;
        }
        Check.parse(x, "a(B(B(B(B(B(B(B(B(B(F()))))))))),F())");
        x.setOld(0, reason == 1 ? 3 : 2, 0);
        x.migrate();
    }
}
