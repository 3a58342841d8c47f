/** Promises 13 to 15: the input text and its parsing. */
public final class TextTest {
    private TextTest() {
    }

    public static void main(String[] args) {
        appending();
        clearing();
        expressions();
        syntaxErrors();
        syntaxErrorsOfCalls();
        adaptersThatDoNotExist();
        aritiesOfTheTime();
        thirtyNodes();
        aDeepExpression();
        parseIsUndoable();
        longTexts();
        Check.finish();
    }

    private static void appending() {
        CallMigrator x = new CallMigrator();
        int[] wrong = {-1, 128, Integer.MIN_VALUE, Integer.MAX_VALUE};
        int count = 0;
        for (int w : wrong) {
            Check.dueRefusal(x, "append(" + w + ")", -2, x.append(w), count++);
        }
        for (int i = 0; i < 120; i++) {
            Check.due("append", i + 1, x.append(i % 2 == 0 ? 0 : 127));
        }
        Check.dueRefusal(x, "append(0)", -4, x.append(0), 0);
        Check.dueRefusal(x, "append(127)", -4, x.append(127), 1);
        Check.dueRefusal(x, "append(128)", -2, x.append(128), count++);
        Check.due("undo()", -5, x.undo());
        Check.due("clearText()", 120, x.clearText());
        Check.due("append(120)", 1, x.append(120));
        Check.due("parse()", 1, x.parse());
    }

    private static void clearing() {
        CallMigrator x = new CallMigrator();
        Check.due("clearText()", 0, x.clearText());
        x.append('1');
        x.append('2');
        Check.due("clearText()", 2, x.clearText());
        Check.due("clearText()", 0, x.clearText());
        Check.due("parse()", -10, x.parse());
        Check.due("append(51)", 1, x.append('3'));
        Check.due("parse()", 1, x.parse());
        Check.dueProgram(x, "3");
        Check.due("undo()", 0, x.undo());
        Check.due("clearText() after undo()", 1, x.clearText());
    }

    private static void expressions() {
        CallMigrator x = new CallMigrator();
        x.setOld(1, 0, 0);
        x.setNew(1, 4, 0);
        dueParsed(x, "0", 1, "0");
        dueParsed(x, "00", 1, "0");
        dueParsed(x, "07", 1, "7");
        dueParsed(x, "10", 1, "10");
        dueParsed(x, "99", 1, "99");
        dueParsed(x, "x", 1, "x");
        dueParsed(x, "y", 1, "y");
        dueParsed(x, "b()", 1, "b()");
        dueParsed(x, "a(05)", 2, "a(5)");
        dueParsed(x, "B(b(),a(A(x)),09,y)", 7, "B(b(),a(A(x)),9,y)");
        dueParsed(x, "f(F(c(C(d(D(e(E(1))))))))", 9, "f(F(c(C(d(D(e(E(1))))))))");
        Check.due("clearText() after parse()", 25, x.clearText());
    }

    private static void dueParsed(CallMigrator x, String text, int nodes, String program) {
        Check.due("parse() of " + text, nodes, Check.parse(x, text));
        Check.due("nodes() of " + text, nodes, x.nodes());
        Check.dueProgram(x, program);
    }

    private static void syntaxErrors() {
        CallMigrator x = new CallMigrator();
        Check.dueSyntaxError(x, "", 0);
        Check.dueSyntaxError(x, "z", 0);
        Check.dueSyntaxError(x, "w", 0);
        Check.dueSyntaxError(x, "g(x)", 0);
        Check.dueSyntaxError(x, "G(x)", 0);
        Check.dueSyntaxError(x, "`(x)", 0);
        Check.dueSyntaxError(x, "@(x)", 0);
        Check.dueSyntaxError(x, "/", 0);
        Check.dueSyntaxError(x, ":", 0);
        Check.dueSyntaxError(x, " x", 0);
        Check.dueSyntaxError(x, "x ", 1);
        Check.dueSyntaxError(x, "xy", 1);
        Check.dueSyntaxError(x, "x1", 1);
        Check.dueSyntaxError(x, "1x", 1);
        Check.dueSyntaxError(x, "123", 2);
        Check.dueSyntaxError(x, "000", 2);
        Check.dueSyntaxError(x, "1:", 1);
        Check.dueSyntaxError(x, "1,2", 1);
        Check.dueSyntaxError(x, "-1", 0);
        Check.dueSyntaxError(x, "(1)", 0);
        Check.dueSyntaxError(x, ")", 0);
        Check.dueSyntaxError(x, ",", 0);
        Check.dueSyntaxError(x, "\0", 0);
        Check.due("errorCount(-2)", 0, x.errorCount(-2));
        Check.due("undo()", -5, x.undo());
    }

    private static void syntaxErrorsOfCalls() {
        CallMigrator x = new CallMigrator();
        x.setOld(0, 2, 0);
        x.setOld(1, 0, 0);
        Check.dueSyntaxError(x, "a", 1);
        Check.dueSyntaxError(x, "a)", 1);
        Check.dueSyntaxError(x, "ab()", 1);
        Check.dueSyntaxError(x, "a(", 2);
        Check.dueSyntaxError(x, "a()", 2);
        Check.dueSyntaxError(x, "a(,", 2);
        Check.dueSyntaxError(x, "a(x", 3);
        Check.dueSyntaxError(x, "a(x)", 3);
        Check.dueSyntaxError(x, "a(xy", 3);
        Check.dueSyntaxError(x, "a(123,4)", 4);
        Check.dueSyntaxError(x, "a(x,", 4);
        Check.dueSyntaxError(x, "a(x,)", 4);
        Check.dueSyntaxError(x, "a(x,,y)", 4);
        Check.dueSyntaxError(x, "a(x,y", 5);
        Check.dueSyntaxError(x, "a(x,y,", 5);
        Check.dueSyntaxError(x, "a(x,y,1)", 5);
        Check.dueSyntaxError(x, "a(x,y))", 6);
        Check.dueSyntaxError(x, "a(x,y)1", 6);
        Check.dueSyntaxError(x, "a(x y)", 3);
        Check.dueSyntaxError(x, "b", 1);
        Check.dueSyntaxError(x, "b(", 2);
        Check.dueSyntaxError(x, "b(x)", 2);
        Check.dueSyntaxError(x, "b(,)", 2);
        Check.dueSyntaxError(x, "b())", 3);
        Check.dueSyntaxError(x, "a(b(),b(1))", 8);
    }

    private static void adaptersThatDoNotExist() {
        CallMigrator x = new CallMigrator();
        Check.dueSyntaxError(x, "p(x)", 0);
        Check.dueSyntaxError(x, "a(s(x))", 2);
        Check.parse(x, "b(a(x))");
        x.allowAdapters(1);
        x.migrate();
        Check.due("parse()", 3, Check.parse(x, "p(q(x))"));
        Check.dueSyntaxError(x, "r(x)", 0);
        Check.dueSyntaxError(x, "o(x)", 0);
        Check.dueSyntaxError(x, "p(t(x))", 2);
        x.undo();
        x.undo();
        Check.dueSyntaxError(x, "p(x)", 0);
    }

    private static void aritiesOfTheTime() {
        CallMigrator x = new CallMigrator();
        x.setOldTerm(0, 0, 2);
        x.setOldTerm(0, 1, 3);
        x.setOld(0, 2, 0);
        Check.due("parse()", 3, Check.parse(x, "a(5,6)"));
        x.setOld(0, 1, 0);
        Check.dueProgram(x, "a(5,6)");
        Check.due("value(0, 0)", 28, x.value(0, 0));
        Check.due("nodes()", 3, x.nodes());
        Check.due("parse() of the same text", -13, x.parse());
        x.setOld(0, 3, 0);
        Check.due("parse() of the same text", -15, x.parse());
        Check.due("value(0, 0)", 28, x.value(0, 0));
    }

    private static void thirtyNodes() {
        CallMigrator x = new CallMigrator();
        x.setNew(0, 4, 0);
        x.setOld(0, 1, 0);
        String four = "A(x,x,x,x)";
        String most = "A(" + four + "," + four + "," + four + ",A(" + four + "," + four + ",x,a(x)))";
        Check.due("parse()", 30, Check.parse(x, most));
        Check.dueProgram(x, most);
        String more = "A(" + four + "," + four + "," + four + ",A(" + four + "," + four + ",x,a(a(x))))";
        Check.dueSyntaxError(x, more, more.lastIndexOf('x'));
        String wrongEnd = more.substring(0, more.lastIndexOf('x')) + "!";
        Check.dueSyntaxError(x, wrongEnd, wrongEnd.length() - 1);
        String noEnd = more.substring(0, more.lastIndexOf('x'));
        Check.dueSyntaxError(x, noEnd, noEnd.length());
        Check.due("nodes()", 30, x.nodes());
    }

    private static void aDeepExpression() {
        CallMigrator x = new CallMigrator();
        String deep = "a(".repeat(29) + "y" + ")".repeat(29);
        Check.due("parse()", 30, Check.parse(x, deep));
        Check.dueProgram(x, deep);
        Check.due("sites()", 29, x.sites());
        x.setOldTerm(0, -1, 1);
        x.setOldTerm(0, 0, 1);
        Check.due("value(0, 5)", 34, x.value(0, 5));
        Check.dueSyntaxError(x, "a(".repeat(30) + "y" + ")".repeat(30), 60);
        Check.dueSyntaxError(x, "a(".repeat(60), 60);
    }

    private static void parseIsUndoable() {
        CallMigrator x = new CallMigrator();
        Check.parse(x, "x");
        Check.parse(x, "a(y)");
        Check.due("parse() of the same text", 2, x.parse());
        Check.due("undo()", 2, x.undo());
        Check.dueProgram(x, "a(y)");
        Check.due("undo()", 1, x.undo());
        Check.dueProgram(x, "x");
        Check.due("undo()", 0, x.undo());
        Check.dueProgram(x, "0");
        Check.due("the text stays", 2, x.parse());
    }

    private static void longTexts() {
        CallMigrator x = new CallMigrator();
        x.setOld(0, 2, 0);
        x.setNew(0, 1, 0);
        String text = "A(".repeat(27) + "a(12,34)" + ")".repeat(27);
        Check.due("parse()", 30, Check.parse(x, text));
        Check.dueProgram(x, text);
        x.setNew(1, 0, 0);
        x.setNew(0, 4, 0);
        String wide = "A(A(B(),B(),B(),B()),A(B(),B(),B(),B()),A(B(),B(),B(),B()),"
            + "A(B(),B(),A(B(),B(),B(),B()),A(B(),B(),B(),B())))";
        Check.due("parse()", 29, Check.parse(x, wide));
        Check.dueProgram(x, wide);
        Check.due("textByte(-1)", wide.length(), x.textByte(-1));
    }
}
