/** The boundary cases of promises 1 to 5, sentence by sentence. */
public final class EdgesOfFunctionsTest {
    private EdgesOfFunctionsTest() {
    }

    public static void main(String[] args) throws ReflectiveOperationException {
        Edges.run(EdgesOfFunctionsTest.class);
    }

    @Sentence(promise = 1, says = "Creates a migrator with the initial functions described above")
    static void aNewObjectsDigest() {
        long h = 2683;
        for (int i = 0; i < 5; i++) {
            h = 31 * h;
        }
        for (int f = 0; f < 12; f++) {
            h = 31 * h + 1;
            for (int i = 0; i < 6; i++) {
                h = 31 * h;
            }
        }
        for (int f = 0; f < 6; f++) {
            h = 31 * (31 * h) - 1;
        }
        h = 31 * (31 * h) + '0';
        for (int i = 0; i < 9; i++) {
            h = 31 * h;
        }
        Check.due("digest() of a new object", h, new CallMigrator().digest());
    }

    @Sentence(promise = 1, says = "Initially each old and new function has arity 1, effect flag 0, "
        + "constant term 0 and all coefficients 0.")
    static void initialFunctions() {
        CallMigrator x = new CallMigrator();
        x.map(0, 0);
        x.setConstant(0, 0, 0);
        String all = "a(b(c(d(e(f(A(B(C(D(E(F(x))))))))))))";
        Check.due("parse() of " + all, 13, Check.parse(x, all));
        Check.due("value(999, 999)", 0, x.value(999, 999));
        Check.due("migrate() where an effect would be lost", 1, x.migrate());
        Check.due("left(5)", 0, x.left(5));
        for (int f = 0; f < 6; f++) {
            for (int position = -1; position <= 3; position++) {
                Check.due("setOldTerm(" + f + ", " + position + ", 1)", 0, x.setOldTerm(f, position, 1));
                Check.due("setNewTerm(" + f + ", " + position + ", 1)", 0, x.setNewTerm(f, position, 1));
            }
            Check.due("setOld(" + f + ", 0, 0)", 1, x.setOld(f, 0, 0));
            Check.due("setNew(" + f + ", 0, 0)", 1, x.setNew(f, 0, 0));
        }
    }

    @Sentence(promise = 1, says = "without mappings and adapters")
    static void noMappingsAndAdapters() {
        CallMigrator x = new CallMigrator();
        for (int f = 0; f < 6; f++) {
            Check.due("isFaithful(" + f + ")", -3, x.isFaithful(f));
            Check.due("adapterOf(" + f + ")", -3, x.adapterOf(f));
        }
        Check.dueSyntaxError(x, "p(x)", 0);
    }

    @Sentence(promise = 1, says = "with adapters not allowed")
    static void adaptersNotAllowed() {
        CallMigrator x = new CallMigrator();
        Check.parse(x, "a(x)");
        Check.due("migrate()", 0, x.migrate());
        Check.dueProgram(x, "a(x)");
        Check.due("allowAdapters(0)", 0, x.allowAdapters(0));
    }

    @Sentence(promise = 1, says = "with the program 0")
    static void theProgramZero() {
        CallMigrator x = new CallMigrator();
        Check.due("textByte(-1)", 1, x.textByte(-1));
        Check.due("textByte(0)", '0', x.textByte(0));
        Check.due("textByte(1)", -1, x.textByte(1));
        Check.due("nodes()", 1, x.nodes());
        Check.due("sites()", 0, x.sites());
        Check.due("value(999, 998)", 0, x.value(999, 998));
    }

    @Sentence(promise = 1, says = "The program is one expression, initially the number 0.")
    static void theFirstProgramIsANumber() {
        CallMigrator x = new CallMigrator();
        Check.due("migrate() of the first program", 0, x.migrate());
        Check.dueProgram(x, "0");
        Check.parse(x, "y");
        x.undo();
        Check.dueProgram(x, "0");
    }

    @Sentence(promise = 1, says = "an empty input text")
    static void anEmptyText() {
        Check.due("clearText()", 0, new CallMigrator().clearText());
        Check.due("parse()", -10, new CallMigrator().parse());
        Check.due("append(0)", 1, new CallMigrator().append(0));
    }

    @Sentence(promise = 1, says = "An object is used for at most 512 calls after it has been made")
    static void the512thCall() {
        CallMigrator x = new CallMigrator();
        for (int call = 1; call <= 254; call++) {
            Check.due("setOldTerm for the time " + call, (call - 1) % 100, x.setOldTerm(0, 0, call % 100));
            Check.due("unmap(0) for the time " + call, -3, x.unmap(0));
        }
        Check.due("call 509, errorCount(-3)", 254, x.errorCount(-3));
        Check.due("call 510, undo()", 3, x.undo());
        Check.due("call 511, parse()", -10, x.parse());
        Check.due("call 512, setOldTerm(0, 0, 0)", 53, x.setOldTerm(0, 0, 0));
    }

    @Sentence(promise = 2, says = "Sets the arity and the effect flag of an old function.")
    static void setOldSetsOneFunction() {
        CallMigrator x = new CallMigrator();
        x.setOld(2, 3, 1);
        for (int f = 0; f < 6; f++) {
            Check.due("setNew(" + f + ", 1, 0)", 1, x.setNew(f, 1, 0));
            Check.due("setOld(" + f + ", 1, 0)", f == 2 ? 3 : 1, x.setOld(f, 1, 0));
        }
    }

    @Sentence(promise = 2, says = "`function`: 0 to 5")
    static void setOldFunction() {
        CallMigrator x = new CallMigrator();
        Edges.refusedOutside(x, "setOld(function, 2, 0)", 0, 5, f -> x.setOld(f, 2, 0));
        Check.due("setOld(0, 2, 0)", 1, x.setOld(0, 2, 0));
        Check.due("setOld(5, 3, 0)", 1, x.setOld(5, 3, 0));
        Check.due("parse()", 6, Check.parse(x, "a(f(1,2,3),4)"));
    }

    @Sentence(promise = 2, says = "`arity`: 0 to 3")
    static void setOldArity() {
        CallMigrator x = new CallMigrator();
        Edges.refusedOutside(x, "setOld(0, arity, 0)", 0, 3, arity -> x.setOld(0, arity, 0));
        Check.due("setOld(0, 0, 0)", 1, x.setOld(0, 0, 0));
        Check.due("parse() with arity 0", 1, Check.parse(x, "a()"));
        Check.due("setOld(0, 3, 0)", 0, x.setOld(0, 3, 0));
        Check.due("parse() with arity 3", 4, Check.parse(x, "a(1,2,3)"));
    }

    @Sentence(promise = 2, says = "`effect`: 0 or 1")
    static void setOldEffect() {
        CallMigrator x = new CallMigrator();
        Edges.refusedOutside(x, "setOld(0, 1, effect)", 0, 1, effect -> x.setOld(0, 1, effect));
        x.map(1, 1);
        x.setConstant(1, 0, 0);
        Check.due("setOld(0, 1, 1)", 1, x.setOld(0, 1, 1));
        Check.parse(x, "b(a(x))");
        x.migrate();
        Check.due("left(5) with effect 1", 1, x.left(5));
        Check.due("setOld(0, 1, 0)", 1, x.setOld(0, 1, 0));
        Check.due("migrate() with effect 0", 1, x.migrate());
        Check.due("left(5) with effect 0", 0, x.left(5));
    }

    @Sentence(promise = 2, says = "Returns the previous arity")
    static void setOldPreviousArity() {
        CallMigrator x = new CallMigrator();
        int previous = 1;
        int[] arities = {0, 3, 3, 2, 0, 0, 1};
        for (int arity : arities) {
            Check.due("setOld(4, " + arity + ", 1)", previous, x.setOld(4, arity, 1));
            previous = arity;
        }
    }

    @Sentence(promise = 2, says = "OUT_OF_RANGE if an argument is out of range")
    static void setOldRefused() {
        CallMigrator x = new CallMigrator();
        Edges.refused(x, "setOld(-1, 4, 2)", -2, () -> x.setOld(-1, 4, 2));
        Edges.refused(x, "setOld(6, 0, 1)", -2, () -> x.setOld(6, 0, 1));
        Edges.refused(x, "setOld(5, 4, 1)", -2, () -> x.setOld(5, 4, 1));
        Edges.refused(x, "setOld(5, 3, 2)", -2, () -> x.setOld(5, 3, 2));
        Check.due("undo()", -5, x.undo());
    }

    @Sentence(promise = 2, says = "Undoable.")
    static void setOldUndoable() {
        CallMigrator x = new CallMigrator();
        Edges.undoable(x, "setOld(0, 0, 0)", () -> x.setOld(0, 0, 0));
        Edges.undoable(x, "setOld(5, 1, 1)", () -> x.setOld(5, 1, 1));
        Check.due("setOld(0, 1, 0) that changes nothing", 1, x.setOld(0, 1, 0));
        Check.due("undo()", 0, x.undo());
    }

    @Sentence(promise = 2, says = "A function has an arity (old functions and adapters 0 to 3, new functions "
        + "0 to 4), an effect flag (0 or 1), a constant term and one coefficient per parameter position from 0 to 3.")
    static void aritiesOfAdapters() {
        CallMigrator x = new CallMigrator();
        x.allowAdapters(1);
        String[] sites = {"a()", "b(1)", "c(1,2)", "d(1,2,3)"};
        String[] calls = {"p()", "q(1)", "r(1,2)", "s(1,2,3)"};
        for (int arity = 0; arity <= 3; arity++) {
            x.setOld(arity, arity, 0);
            Check.parse(x, sites[arity]);
            Check.due("migrate() of " + sites[arity], 1, x.migrate());
            Check.due("parse() of " + calls[arity], arity + 1, Check.parse(x, calls[arity]));
        }
    }

    @Sentence(promise = 2, says = "Coefficients of positions that are not less than the arity are kept but not used.")
    static void coefficientsBeyondTheArity() {
        CallMigrator x = new CallMigrator();
        x.setOldTerm(0, 0, 2);
        x.setOldTerm(0, 1, 30);
        x.setOldTerm(0, 2, 40);
        Check.parse(x, "a(3)");
        Check.due("value(0, 0) with arity 1", 6, x.value(0, 0));
        x.map(0, 0);
        x.setNewTerm(0, 0, 2);
        x.setNewTerm(0, 3, 9);
        Check.due("isFaithful(0) with arity 1", 1, x.isFaithful(0));
        x.setOld(0, 0, 0);
        Check.parse(x, "a()");
        Check.due("value(0, 0) with arity 0", 0, x.value(0, 0));
        x.setOld(0, 3, 0);
        Check.parse(x, "a(1,1,1)");
        Check.due("value(0, 0) with arity 3", 72, x.value(0, 0));
    }

    @Sentence(promise = 3, says = "Sets the arity and the effect flag of a new function.")
    static void setNewSetsOneFunction() {
        CallMigrator x = new CallMigrator();
        x.setNew(3, 4, 1);
        for (int f = 0; f < 6; f++) {
            Check.due("setOld(" + f + ", 1, 0)", 1, x.setOld(f, 1, 0));
            Check.due("setNew(" + f + ", 1, 0)", f == 3 ? 4 : 1, x.setNew(f, 1, 0));
        }
    }

    @Sentence(promise = 3, says = "`function`: 0 to 5")
    static void setNewFunction() {
        CallMigrator x = new CallMigrator();
        Edges.refusedOutside(x, "setNew(function, 2, 0)", 0, 5, f -> x.setNew(f, 2, 0));
        Check.due("setNew(0, 2, 0)", 1, x.setNew(0, 2, 0));
        Check.due("setNew(5, 3, 0)", 1, x.setNew(5, 3, 0));
        Check.due("parse()", 6, Check.parse(x, "A(F(1,2,3),4)"));
    }

    @Sentence(promise = 3, says = "`arity`: 0 to 4")
    static void setNewArity() {
        CallMigrator x = new CallMigrator();
        Edges.refusedOutside(x, "setNew(0, arity, 0)", 0, 4, arity -> x.setNew(0, arity, 0));
        Check.due("setNew(0, 0, 0)", 1, x.setNew(0, 0, 0));
        Check.due("parse() with arity 0", 1, Check.parse(x, "A()"));
        Check.due("setNew(0, 4, 0)", 0, x.setNew(0, 4, 0));
        Check.due("parse() with arity 4", 5, Check.parse(x, "A(1,2,3,4)"));
    }

    @Sentence(promise = 3, says = "`effect`: 0 or 1")
    static void setNewEffect() {
        CallMigrator x = new CallMigrator();
        Edges.refusedOutside(x, "setNew(0, 1, effect)", 0, 1, effect -> x.setNew(0, 1, effect));
        x.map(1, 1);
        x.setConstant(1, 0, 0);
        Check.due("setNew(0, 1, 1)", 1, x.setNew(0, 1, 1));
        Check.parse(x, "b(A(x))");
        x.migrate();
        Check.due("left(5) with effect 1", 1, x.left(5));
        Check.due("setNew(0, 1, 0)", 1, x.setNew(0, 1, 0));
        Check.due("migrate() with effect 0", 1, x.migrate());
        Check.due("left(5) with effect 0", 0, x.left(5));
    }

    @Sentence(promise = 3, says = "Returns the previous arity")
    static void setNewPreviousArity() {
        CallMigrator x = new CallMigrator();
        int previous = 1;
        int[] arities = {0, 4, 4, 2, 0, 0, 1};
        for (int arity : arities) {
            Check.due("setNew(4, " + arity + ", 1)", previous, x.setNew(4, arity, 1));
            previous = arity;
        }
    }

    @Sentence(promise = 3, says = "OUT_OF_RANGE if an argument is out of range")
    static void setNewRefused() {
        CallMigrator x = new CallMigrator();
        Edges.refused(x, "setNew(-1, 5, 2)", -2, () -> x.setNew(-1, 5, 2));
        Edges.refused(x, "setNew(6, 0, 1)", -2, () -> x.setNew(6, 0, 1));
        Edges.refused(x, "setNew(5, 5, 1)", -2, () -> x.setNew(5, 5, 1));
        Edges.refused(x, "setNew(5, 4, 2)", -2, () -> x.setNew(5, 4, 2));
        Check.due("undo()", -5, x.undo());
    }

    @Sentence(promise = 3, says = "Undoable.")
    static void setNewUndoable() {
        CallMigrator x = new CallMigrator();
        Edges.undoable(x, "setNew(0, 4, 0)", () -> x.setNew(0, 4, 0));
        Edges.undoable(x, "setNew(5, 1, 1)", () -> x.setNew(5, 1, 1));
        Check.due("setNew(0, 1, 0) that changes nothing", 1, x.setNew(0, 1, 0));
        Check.due("undo()", 0, x.undo());
    }

    @Sentence(promise = 4, says = "Sets a term of an old function.")
    static void setOldTermSetsOneTerm() {
        CallMigrator x = new CallMigrator();
        x.setOldTerm(2, 1, 50);
        for (int f = 1; f <= 3; f++) {
            for (int position = -1; position <= 3; position++) {
                String arguments = "(" + f + ", " + position + ", 0)";
                Check.due("setNewTerm" + arguments, 0, x.setNewTerm(f, position, 0));
                int want = f == 2 && position == 1 ? 50 : 0;
                Check.due("setOldTerm" + arguments, want, x.setOldTerm(f, position, 0));
            }
        }
    }

    @Sentence(promise = 4, says = "`function`: 0 to 5")
    static void setOldTermFunction() {
        CallMigrator x = new CallMigrator();
        Edges.refusedOutside(x, "setOldTerm(function, 0, 7)", 0, 5, f -> x.setOldTerm(f, 0, 7));
        Check.due("setOldTerm(0, 0, 7)", 0, x.setOldTerm(0, 0, 7));
        Check.due("setOldTerm(5, 0, 8)", 0, x.setOldTerm(5, 0, 8));
        Check.parse(x, "a(f(1))");
        Check.due("value(0, 0)", 56, x.value(0, 0));
    }

    @Sentence(promise = 4, says = "`position`: position of a parameter, 0 to 3, or -1 for the constant term")
    static void setOldTermPosition() {
        CallMigrator x = new CallMigrator();
        Edges.refusedOutside(x, "setOldTerm(0, position, 7)", -1, 3, position -> x.setOldTerm(0, position, 7));
        for (int position = -1; position <= 3; position++) {
            Check.due("setOldTerm(0, " + position + ")", 0, x.setOldTerm(0, position, 20 + position));
        }
        x.setOld(0, 0, 0);
        Check.parse(x, "a()");
        Check.due("value(0, 0), the constant term", 19, x.value(0, 0));
        for (int position = -1; position <= 3; position++) {
            Check.due("setOldTerm(0, " + position + ", 0)", 20 + position, x.setOldTerm(0, position, 0));
        }
    }

    @Sentence(promise = 4, says = "`value`: 0 to 99")
    static void setOldTermValue() {
        CallMigrator x = new CallMigrator();
        Edges.refusedOutside(x, "setOldTerm(0, 0, value)", 0, 99, value -> x.setOldTerm(0, 0, value));
        Edges.refusedOutside(x, "setOldTerm(0, -1, value)", 0, 99, value -> x.setOldTerm(0, -1, value));
        Check.due("setOldTerm(0, 0, 99)", 0, x.setOldTerm(0, 0, 99));
        Check.due("setOldTerm(0, 0, 0)", 99, x.setOldTerm(0, 0, 0));
        Check.due("setOldTerm(0, 0, 99)", 0, x.setOldTerm(0, 0, 99));
        Check.parse(x, "a(1)");
        Check.due("value(0, 0)", 99, x.value(0, 0));
    }

    @Sentence(promise = 4, says = "Returns the previous value")
    static void setOldTermPreviousValue() {
        CallMigrator x = new CallMigrator();
        int previous = 0;
        int[] values = {99, 99, 0, 0, 1, 98};
        for (int value : values) {
            Check.due("setOldTerm(5, 3, " + value + ")", previous, x.setOldTerm(5, 3, value));
            Check.due("setOldTerm(5, -1, " + value + ")", previous, x.setOldTerm(5, -1, value));
            previous = value;
        }
    }

    @Sentence(promise = 4, says = "OUT_OF_RANGE if an argument is out of range")
    static void setOldTermRefused() {
        CallMigrator x = new CallMigrator();
        Edges.refused(x, "setOldTerm(-1, -2, 100)", -2, () -> x.setOldTerm(-1, -2, 100));
        Edges.refused(x, "setOldTerm(6, -1, 0)", -2, () -> x.setOldTerm(6, -1, 0));
        Edges.refused(x, "setOldTerm(5, 4, 99)", -2, () -> x.setOldTerm(5, 4, 99));
        Edges.refused(x, "setOldTerm(0, -1, 100)", -2, () -> x.setOldTerm(0, -1, 100));
        Check.due("undo()", -5, x.undo());
    }

    @Sentence(promise = 4, says = "Undoable.")
    static void setOldTermUndoable() {
        CallMigrator x = new CallMigrator();
        Edges.undoable(x, "setOldTerm(0, -1, 99)", () -> x.setOldTerm(0, -1, 99));
        Edges.undoable(x, "setOldTerm(5, 3, 1)", () -> x.setOldTerm(5, 3, 1));
        Check.due("setOldTerm(0, 0, 0) that changes nothing", 0, x.setOldTerm(0, 0, 0));
        Check.due("undo()", 0, x.undo());
    }

    @Sentence(promise = 4, says = "The constant term and the coefficients are numbers from 0 to 99.")
    static void leastAndGreatestTerms() {
        CallMigrator x = new CallMigrator();
        x.setOld(0, 3, 0);
        x.setOldTerm(0, -1, 99);
        x.setOldTerm(0, 2, 99);
        Check.parse(x, "a(9,9,9)");
        Check.due("value(0, 0)", 990, x.value(0, 0));
        x.setOldTerm(0, -1, 0);
        Check.due("value(0, 0)", 891, x.value(0, 0));
        x.setOldTerm(0, 2, 0);
        Check.due("value(0, 0)", 0, x.value(0, 0));
    }

    @Sentence(promise = 5, says = "Sets a term of a new function.")
    static void setNewTermSetsOneTerm() {
        CallMigrator x = new CallMigrator();
        x.setNewTerm(2, 1, 50);
        for (int f = 1; f <= 3; f++) {
            for (int position = -1; position <= 3; position++) {
                String arguments = "(" + f + ", " + position + ", 0)";
                Check.due("setOldTerm" + arguments, 0, x.setOldTerm(f, position, 0));
                int want = f == 2 && position == 1 ? 50 : 0;
                Check.due("setNewTerm" + arguments, want, x.setNewTerm(f, position, 0));
            }
        }
    }

    @Sentence(promise = 5, says = "`function`: 0 to 5")
    static void setNewTermFunction() {
        CallMigrator x = new CallMigrator();
        Edges.refusedOutside(x, "setNewTerm(function, 0, 7)", 0, 5, f -> x.setNewTerm(f, 0, 7));
        Check.due("setNewTerm(0, 0, 7)", 0, x.setNewTerm(0, 0, 7));
        Check.due("setNewTerm(5, 0, 8)", 0, x.setNewTerm(5, 0, 8));
        Check.parse(x, "A(F(1))");
        Check.due("value(0, 0)", 56, x.value(0, 0));
    }

    @Sentence(promise = 5, says = "`position`: position of a parameter, 0 to 3, or -1 for the constant term")
    static void setNewTermPosition() {
        CallMigrator x = new CallMigrator();
        Edges.refusedOutside(x, "setNewTerm(0, position, 7)", -1, 3, position -> x.setNewTerm(0, position, 7));
        x.setNew(0, 4, 0);
        Check.parse(x, "A(1,1,1,1)");
        Check.due("setNewTerm(0, -1, 1)", 0, x.setNewTerm(0, -1, 1));
        Check.due("value(0, 0)", 1, x.value(0, 0));
        Check.due("setNewTerm(0, 3, 50)", 0, x.setNewTerm(0, 3, 50));
        Check.due("value(0, 0)", 51, x.value(0, 0));
        Check.due("setNewTerm(0, 0, 20)", 0, x.setNewTerm(0, 0, 20));
        Check.due("value(0, 0)", 71, x.value(0, 0));
    }

    @Sentence(promise = 5, says = "`value`: 0 to 99")
    static void setNewTermValue() {
        CallMigrator x = new CallMigrator();
        Edges.refusedOutside(x, "setNewTerm(0, 0, value)", 0, 99, value -> x.setNewTerm(0, 0, value));
        Edges.refusedOutside(x, "setNewTerm(0, -1, value)", 0, 99, value -> x.setNewTerm(0, -1, value));
        Check.due("setNewTerm(0, 0, 99)", 0, x.setNewTerm(0, 0, 99));
        Check.due("setNewTerm(0, 0, 0)", 99, x.setNewTerm(0, 0, 0));
        Check.due("setNewTerm(0, 0, 99)", 0, x.setNewTerm(0, 0, 99));
        Check.parse(x, "A(1)");
        Check.due("value(0, 0)", 99, x.value(0, 0));
    }

    @Sentence(promise = 5, says = "Returns the previous value")
    static void setNewTermPreviousValue() {
        CallMigrator x = new CallMigrator();
        int previous = 0;
        int[] values = {99, 99, 0, 0, 1, 98};
        for (int value : values) {
            Check.due("setNewTerm(5, 3, " + value + ")", previous, x.setNewTerm(5, 3, value));
            Check.due("setNewTerm(5, -1, " + value + ")", previous, x.setNewTerm(5, -1, value));
            previous = value;
        }
    }

    @Sentence(promise = 5, says = "OUT_OF_RANGE if an argument is out of range")
    static void setNewTermRefused() {
        CallMigrator x = new CallMigrator();
        Edges.refused(x, "setNewTerm(-1, -2, 100)", -2, () -> x.setNewTerm(-1, -2, 100));
        Edges.refused(x, "setNewTerm(6, -1, 0)", -2, () -> x.setNewTerm(6, -1, 0));
        Edges.refused(x, "setNewTerm(5, 4, 99)", -2, () -> x.setNewTerm(5, 4, 99));
        Edges.refused(x, "setNewTerm(0, -1, 100)", -2, () -> x.setNewTerm(0, -1, 100));
        Check.due("undo()", -5, x.undo());
    }

    @Sentence(promise = 5, says = "Undoable.")
    static void setNewTermUndoable() {
        CallMigrator x = new CallMigrator();
        Edges.undoable(x, "setNewTerm(0, -1, 99)", () -> x.setNewTerm(0, -1, 99));
        Edges.undoable(x, "setNewTerm(5, 3, 1)", () -> x.setNewTerm(5, 3, 1));
        Check.due("setNewTerm(0, 0, 0) that changes nothing", 0, x.setNewTerm(0, 0, 0));
        Check.due("undo()", 0, x.undo());
    }
}
