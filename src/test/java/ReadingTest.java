/** Promises 18 to 21: sites, nodes, the value and the text of the program. */
public final class ReadingTest {
    private ReadingTest() {
    }

    public static void main(String[] args) {
        sitesAndNodes();
        valuesOfLeaves();
        valuesOfCalls();
        valuesModulo1000();
        valuesOfCallsWithOtherArities();
        valuesOutOfRange();
        bytesOfTheText();
        bytesOutOfRange();
        readingSavesNothing();
        Check.finish();
    }

    private static void sitesAndNodes() {
        CallMigrator x = new CallMigrator();
        x.setOld(5, 0, 0);
        x.setNew(0, 3, 0);
        Check.parse(x, "A(a(f()),B(b(x)),12)");
        Check.due("sites()", 3, x.sites());
        Check.due("nodes()", 7, x.nodes());
        x.allowAdapters(1);
        x.migrate();
        Check.due("sites()", 0, x.sites());
        Check.due("nodes()", 7, x.nodes());
        Check.parse(x, "99");
        Check.due("sites()", 0, x.sites());
        Check.due("nodes()", 1, x.nodes());
    }

    private static void valuesOfLeaves() {
        CallMigrator x = new CallMigrator();
        Check.parse(x, "x");
        Check.due("value(999, 0)", 999, x.value(999, 0));
        Check.due("value(0, 999)", 0, x.value(0, 999));
        Check.parse(x, "y");
        Check.due("value(999, 0)", 0, x.value(999, 0));
        Check.due("value(1, 999)", 999, x.value(1, 999));
        Check.parse(x, "99");
        Check.due("value(1, 2)", 99, x.value(1, 2));
    }

    private static void valuesOfCalls() {
        CallMigrator x = new CallMigrator();
        x.setOld(0, 2, 0);
        x.setOldTerm(0, -1, 1);
        x.setOldTerm(0, 0, 2);
        x.setOldTerm(0, 1, 3);
        x.setNew(0, 0, 0);
        x.setNewTerm(0, -1, 4);
        x.setNewTerm(0, 0, 50);
        Check.parse(x, "a(a(x,A()),a(y,5))");
        // a(x, 4) = 1 + 2 * 10 + 12 = 33; a(y, 5) = 1 + 2 * 20 + 15 = 56
        Check.due("value(10, 20)", 235, x.value(10, 20));
        x.setOldTerm(0, 0, 0);
        Check.due("value(10, 20)", 49, x.value(10, 20));
    }

    private static void valuesModulo1000() {
        CallMigrator x = new CallMigrator();
        x.setNew(0, 4, 0);
        for (int position = -1; position <= 3; position++) {
            x.setNewTerm(0, position, 99);
        }
        Check.parse(x, "A(x,x,y,y)");
        Check.due("value(999, 999)", 703, x.value(999, 999));
        Check.due("value(1, 0)", 297, x.value(1, 0));
        x.setOldTerm(0, 0, 99);
        Check.parse(x, "a(a(x))");
        Check.due("value(999, 0)", 199, x.value(999, 0));
        Check.due("value(500, 0)", 500, x.value(500, 0));
    }

    private static void valuesOfCallsWithOtherArities() {
        CallMigrator x = new CallMigrator();
        x.setOld(0, 3, 0);
        x.setOldTerm(0, 0, 1);
        x.setOldTerm(0, 1, 10);
        x.setOldTerm(0, 2, 50);
        Check.parse(x, "a(1,2,3)");
        Check.due("value(0, 0)", 171, x.value(0, 0));
        x.setOld(0, 0, 0);
        Check.due("value(0, 0)", 171, x.value(0, 0));
        Check.parse(x, "a()");
        x.setOld(0, 3, 0);
        Check.due("value(0, 0)", 0, x.value(0, 0));
    }

    private static void valuesOutOfRange() {
        CallMigrator x = new CallMigrator();
        int[] wrong = {-1, 1000, Integer.MIN_VALUE, Integer.MAX_VALUE};
        int count = 0;
        for (int w : wrong) {
            Check.dueRefusal(x, "value(" + w + ", 0)", -2, x.value(w, 0), count++);
            Check.dueRefusal(x, "value(0, " + w + ")", -2, x.value(0, w), count++);
            Check.dueRefusal(x, "value(" + w + ", " + w + ")", -2, x.value(w, w), count++);
        }
    }

    private static void bytesOfTheText() {
        CallMigrator x = new CallMigrator();
        x.setOld(1, 0, 0);
        x.setNew(0, 3, 0);
        Check.parse(x, "A(b(),00,a(45))");
        String want = "A(b(),0,a(45))";
        Check.due("textByte(-1)", want.length(), x.textByte(-1));
        for (int i = 0; i < want.length(); i++) {
            Check.due("textByte(" + i + ")", want.charAt(i), x.textByte(i));
        }
        Check.due("textByte at the length", CallMigrator.NONE, x.textByte(want.length()));
        Check.due("textByte(MAX)", CallMigrator.NONE, x.textByte(Integer.MAX_VALUE));
        x.map(0, 1);
        x.setConstant(0, 0, 5);
        x.migrate();
        Check.dueProgram(x, "A(b(),0,B(5))");
    }

    private static void bytesOutOfRange() {
        CallMigrator x = new CallMigrator();
        Check.dueRefusal(x, "textByte(-2)", -2, x.textByte(-2), 0);
        Check.dueRefusal(x, "textByte(MIN)", -2, x.textByte(Integer.MIN_VALUE), 1);
        Check.due("textByte(0)", '0', x.textByte(0));
        Check.due("textByte(1)", -1, x.textByte(1));
        Check.due("errorCount(-2)", 2, x.errorCount(-2));
    }

    private static void readingSavesNothing() {
        CallMigrator x = new CallMigrator();
        x.map(0, 0);
        long before = x.digest();
        x.isFaithful(0);
        x.left(1);
        x.sites();
        x.nodes();
        x.value(1, 1);
        x.textByte(0);
        x.textByte(-1);
        x.errorCount(-2);
        x.clearText();
        Check.due("digest()", before, x.digest());
        x.append('1');
        x.clearText();
        Check.due("digest()", before, x.digest());
        Check.due("undo()", 0, x.undo());
    }
}
