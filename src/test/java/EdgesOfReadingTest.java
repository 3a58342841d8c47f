/** The boundary cases of promises 18 to 21, sentence by sentence. */
public final class EdgesOfReadingTest {
    private EdgesOfReadingTest() {
    }

    public static void main(String[] args) throws ReflectiveOperationException {
        Edges.run(EdgesOfReadingTest.class);
    }

    @Sentence(promise = 18, says = "Counts the call sites of the program.")
    static void sitesChangeNothing() {
        CallMigrator x = new CallMigrator();
        Edges.changesNothing(x, "sites() of the first program", 0, x::sites);
        Check.parse(x, "a(A(f(x)))");
        Edges.changesNothing(x, "sites()", 2, x::sites);
    }

    @Sentence(promise = 18, says = "A call site is a call of an old function in the program.")
    static void onlyOldFunctionsAreSites() {
        CallMigrator x = new CallMigrator();
        Edges.makeAdapters(x, 4);
        Check.due("sites() of adapters", 0, x.sites());
        Check.parse(x, "A(B(C(D(E(F(x))))))");
        Check.due("sites() of new functions", 0, x.sites());
        Check.parse(x, "a(b(c(d(e(f(x))))))");
        Check.due("sites() of old functions", 6, x.sites());
        Check.parse(x, "a(A(p(a(y))))");
        Check.due("sites() of the same function twice", 2, x.sites());
        x.setOld(0, 3, 0);
        Check.due("sites() with another arity", 2, x.sites());
    }

    @Sentence(promise = 18, says = "Returns the number of calls of old functions.")
    static void noneToThirtySites() {
        CallMigrator x = new CallMigrator();
        x.setOld(5, 0, 0);
        Check.due("sites() of the first program", 0, x.sites());
        Check.parse(x, "f()");
        Check.due("sites() of one call", 1, x.sites());
        Check.parse(x, Edges.nested("a(", 29, "x"));
        Check.due("sites() of 29 calls", 29, x.sites());
        Check.parse(x, Edges.nested("a(", 29, "f()"));
        Check.due("sites() of 30 calls", 30, x.sites());
        x.migrate();
        Check.due("sites() after a migration that left all", 30, x.sites());
        x.allowAdapters(1);
        x.migrate();
        Check.due("sites() after a migration that left none", 0, x.sites());
        x.undo();
        Check.due("sites() after undo()", 30, x.sites());
    }

    @Sentence(promise = 19, says = "Returns the number of nodes of the program.")
    static void nodesChangeNothing() {
        CallMigrator x = new CallMigrator();
        Edges.changesNothing(x, "nodes() of the first program", 1, x::nodes);
        x.setOld(0, 3, 0);
        Check.parse(x, "a(B(x),12,y)");
        Edges.changesNothing(x, "nodes()", 5, x::nodes);
        x.setOld(0, 0, 0);
        Edges.changesNothing(x, "nodes() with another arity", 5, x::nodes);
    }

    @Sentence(promise = 19, says = "Returns the number of nodes, 1 to 30.")
    static void oneToThirtyNodes() {
        CallMigrator x = new CallMigrator();
        x.setNew(1, 0, 0);
        Check.parse(x, "B()");
        Check.due("nodes() of one node", 1, x.nodes());
        Check.parse(x, Edges.nested("a(", 29, "99"));
        Check.due("nodes() of 30 nodes", 30, x.nodes());
        Check.dueSyntaxError(x, Edges.nested("a(", 30, "9"), 60);
        Check.due("nodes() after a 31st was refused", 30, x.nodes());
        x.setNew(0, 2, 0);
        x.map(0, 0);
        x.setSource(0, 1, 0);
        x.migrate();
        Check.due("left(7)", 29, x.left(7));
        Check.due("nodes() after a migration without room", 30, x.nodes());
    }

    @Sentence(promise = 20, says = "Computes the value of the program.")
    static void valueChangesNothing() {
        CallMigrator x = new CallMigrator();
        Edges.changesNothing(x, "value(1, 2) of the first program", 0, () -> x.value(1, 2));
        Check.parse(x, "99");
        Edges.changesNothing(x, "value(1, 2) of 99", 99, () -> x.value(1, 2));
        Check.parse(x, "x");
        Edges.changesNothing(x, "value(1, 2) of x", 1, () -> x.value(1, 2));
        Check.parse(x, "y");
        Edges.changesNothing(x, "value(1, 2) of y", 2, () -> x.value(1, 2));
    }

    @Sentence(promise = 20, says = "`x`: value of the variable x, 0 to 999")
    static void valueOfX() {
        CallMigrator x = new CallMigrator();
        Check.parse(x, "x");
        Edges.refusedOutside(x, "value(x, 5)", 0, 999, number -> x.value(number, 5));
        Check.due("value(0, 5)", 0, x.value(0, 5));
        Check.due("value(999, 5)", 999, x.value(999, 5));
    }

    @Sentence(promise = 20, says = "`y`: value of the variable y, 0 to 999")
    static void valueOfY() {
        CallMigrator x = new CallMigrator();
        Check.parse(x, "y");
        Edges.refusedOutside(x, "value(5, y)", 0, 999, number -> x.value(5, number));
        Check.due("value(5, 0)", 0, x.value(5, 0));
        Check.due("value(5, 999)", 999, x.value(5, 999));
    }

    @Sentence(promise = 20, says = "Returns the value, 0 to 999")
    static void valuesWrapAround() {
        CallMigrator x = new CallMigrator();
        x.setOldTerm(0, 0, 1);
        Check.parse(x, "a(x)");
        Check.due("value(999, 0) is 999", 999, x.value(999, 0));
        x.setOldTerm(0, -1, 1);
        Check.due("value(998, 0) is 999", 999, x.value(998, 0));
        Check.due("value(999, 0) is 1000", 0, x.value(999, 0));
        x.setOldTerm(0, -1, 2);
        Check.due("value(999, 0) is 1001", 1, x.value(999, 0));
        x.setOldTerm(0, -1, 0);
        x.setOldTerm(0, 0, 2);
        Check.due("value(500, 0) is 1000", 0, x.value(500, 0));
        x.setOldTerm(0, 0, 99);
        Check.due("value(999, 0) is 98901", 901, x.value(999, 0));
    }

    @Sentence(promise = 20, says = "The value of a call is the constant term plus, for each argument, the coefficient of its "
        + "position times the value of the argument, all modulo 1000.")
    static void valuesOfCalls() {
        CallMigrator x = new CallMigrator();
        x.setNew(0, 4, 0);
        for (int position = -1; position <= 3; position++) {
            x.setNewTerm(0, position, 99);
        }
        Check.parse(x, "A(x,x,x,y)");
        Check.due("value(999, 999) is 395703", 703, x.value(999, 999));
        Check.due("value(0, 0)", 99, x.value(0, 0));
        Check.due("value(0, 999) is 99000", 0, x.value(0, 999));
        // A coefficient without an argument does not reach for the argument of the call around it.
        x.setOldTerm(1, 0, 2);
        x.setOldTerm(1, 1, 50);
        x.setNew(2, 2, 0);
        x.setNewTerm(2, 0, 1);
        x.setNewTerm(2, 1, 10);
        Check.parse(x, "C(b(3),7)");
        Check.due("value(0, 0) of C(b(3),7)", 76, x.value(0, 0));
        // Calls within calls: each is taken modulo 1000 before it is an argument.
        Check.parse(x, "A(A(x,x,x,x),0,0,0)");
        Check.due("value(999, 0)", (99 + 99 * 703) % 1000, x.value(999, 0));
        x.setNew(1, 0, 0);
        x.setNewTerm(1, -1, 42);
        x.setNewTerm(1, 0, 7);
        Check.parse(x, "B()");
        Check.due("value(5, 5) of a call without arguments", 42, x.value(5, 5));
        x.setOldTerm(0, -1, 99);
        x.setOldTerm(0, 0, 99);
        Check.parse(x, Edges.nested("a(", 29, "x"));
        int want = 999;
        for (int i = 0; i < 29; i++) {
            want = (99 + 99 * want) % 1000;
        }
        Check.due("value(999, 0) of 29 calls", want, x.value(999, 0));
    }

    @Sentence(promise = 20, says = "OUT_OF_RANGE if an argument is out of range")
    static void valueRefused() {
        CallMigrator x = new CallMigrator();
        Edges.refused(x, "value(-1, 0) of 0", -2, () -> x.value(-1, 0));
        Edges.refused(x, "value(0, 1000) of 0", -2, () -> x.value(0, 1000));
        Edges.refused(x, "value(1000, -1) of 0", -2, () -> x.value(1000, -1));
        Check.parse(x, "x");
        Edges.refused(x, "value(0, -1) of x", -2, () -> x.value(0, -1));
    }

    @Sentence(promise = 21, says = "Returns a byte of the program's text: numbers without leading zeros, no spaces.")
    static void theTextWithoutLeadingZeros() {
        CallMigrator x = new CallMigrator();
        x.setNew(0, 4, 0);
        Check.parse(x, "A(00,01,09,10)");
        Check.dueProgram(x, "A(0,1,9,10)");
        Check.parse(x, "00");
        Check.dueProgram(x, "0");
        Edges.changesNothing(x, "textByte(0)", '0', () -> x.textByte(0));
    }

    @Sentence(promise = 21, says = "`index`: index of the byte, from 0, or -1 for the length")
    static void theFirstAndTheLastByte() {
        CallMigrator x = new CallMigrator();
        Check.parse(x, "a(12)");
        Check.due("textByte(-1)", 5, x.textByte(-1));
        Check.due("textByte(0)", 'a', x.textByte(0));
        Check.due("textByte(3)", '2', x.textByte(3));
        Check.due("textByte(4)", ')', x.textByte(4));
    }

    @Sentence(promise = 21, says = "Returns the byte, or the length if index is -1")
    static void theLongestText() {
        CallMigrator x = new CallMigrator();
        Edges.changesNothing(x, "textByte(-1) of the first program", 1, () -> x.textByte(-1));
        x.setNew(0, 4, 0);
        x.setNew(1, 0, 0);
        String zeros = "B(),B(),B(),B()";
        String longest = "A(A(" + zeros + "),A(" + zeros + "),A(" + zeros + "),A(A(" + zeros + "),A(" + zeros
            + "),B(),C(B())))";
        Check.due("parse()", 30, Check.parse(x, longest));
        Check.due("textByte(-1) of the longest text", 111, x.textByte(-1));
        Check.dueProgram(x, longest);
        Check.due("textByte(111)", -1, x.textByte(111));
    }

    @Sentence(promise = 21, says = "NONE if index is not less than the length")
    static void noSuchByte() {
        CallMigrator x = new CallMigrator();
        Edges.changesNothing(x, "textByte(1) of the first program", -1, () -> x.textByte(1));
        Check.parse(x, "a(12)");
        Edges.changesNothing(x, "textByte(5)", -1, () -> x.textByte(5));
        Edges.changesNothing(x, "textByte(6)", -1, () -> x.textByte(6));
        Edges.changesNothing(x, "textByte(120)", -1, () -> x.textByte(120));
        Edges.changesNothing(x, "textByte(MAX)", -1, () -> x.textByte(Integer.MAX_VALUE));
        // The rest of a longer text does not show behind a shorter one.
        Check.parse(x, "7");
        Edges.changesNothing(x, "textByte(1)", -1, () -> x.textByte(1));
    }

    @Sentence(promise = 21, says = "OUT_OF_RANGE if index is less than -1")
    static void textByteRefused() {
        CallMigrator x = new CallMigrator();
        Edges.refused(x, "textByte(-2)", -2, () -> x.textByte(-2));
        Edges.refused(x, "textByte(-3)", -2, () -> x.textByte(-3));
        Edges.refused(x, "textByte(MIN)", -2, () -> x.textByte(Integer.MIN_VALUE));
    }
}
