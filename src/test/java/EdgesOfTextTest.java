/** The boundary cases of promises 13 to 15, sentence by sentence. */
public final class EdgesOfTextTest {
    private EdgesOfTextTest() {
    }

    public static void main(String[] args) throws ReflectiveOperationException {
        Edges.run(EdgesOfTextTest.class);
    }

    private static void fill(CallMigrator x, int bytes) {
        for (int i = 0; i < bytes; i++) {
            x.append('x');
        }
    }

    private static void dueParsed(CallMigrator x, String text, int nodes, String program) {
        Check.due("parse() of " + text, nodes, Check.parse(x, text));
        Check.due("nodes() of " + text, nodes, x.nodes());
        Check.dueProgram(x, program);
    }

    @Sentence(promise = 13, says = "Appends a byte to the input text.")
    static void appendAddsAtTheEnd() {
        CallMigrator x = new CallMigrator();
        x.append('4');
        x.append('2');
        Check.due("parse()", 1, x.parse());
        Check.dueProgram(x, "42");
        x.append('0');
        Check.due("parse()", -12, x.parse());
        Check.due("undo() has one state of parse() only", 0, x.undo());
        Check.due("clearText() after undo()", 3, x.clearText());
    }

    @Sentence(promise = 13, says = "`value`: the byte, 0 to 127")
    static void appendValue() {
        CallMigrator x = new CallMigrator();
        Edges.refusedOutside(x, "append(value)", 0, 127, x::append);
        Check.due("append(0)", 1, x.append(0));
        Check.due("append(127)", 2, x.append(127));
        Check.due("append(256 + 120)", -2, x.append(256 + 120));
        Check.due("parse()", -10, x.parse());
    }

    @Sentence(promise = 13, says = "Returns the new length of the input text")
    static void appendAnswersTheLength() {
        CallMigrator x = new CallMigrator();
        for (int length = 1; length <= 120; length++) {
            Check.due("append", length, x.append(length));
        }
        x.clearText();
        Check.due("append(1) after clearText()", 1, x.append(1));
    }

    @Sentence(promise = 13, says = "OUT_OF_RANGE if value is out of range (checked first)")
    static void appendChecksTheRangeFirst() {
        CallMigrator x = new CallMigrator();
        fill(x, 120);
        Edges.refusedOutside(x, "append(value) to a full text", 0, 127, x::append);
        Check.due("errorCount(-4)", 0, x.errorCount(-4));
    }

    @Sentence(promise = 13, says = "FULL if it has 120 bytes")
    static void appendFull() {
        CallMigrator x = new CallMigrator();
        fill(x, 118);
        Check.due("append(0) as byte 119", 119, x.append(0));
        Check.due("append(0) as byte 120", 120, x.append(0));
        Edges.refused(x, "append(0) as byte 121", -4, () -> x.append(0));
        Edges.refused(x, "append(127) as byte 121", -4, () -> x.append(127));
        Check.due("clearText()", 120, x.clearText());
        Check.due("append(0)", 1, x.append(0));
    }

    @Sentence(promise = 14, says = "Empties the input text.")
    static void clearTextEmpties() {
        CallMigrator x = new CallMigrator();
        x.append('1');
        x.append('2');
        x.parse();
        x.clearText();
        Check.due("parse() of the empty text", -10, x.parse());
        Check.dueProgram(x, "12");
        x.append('3');
        Check.due("parse()", 1, x.parse());
        Check.dueProgram(x, "3");
        Check.due("undo() has the states of parse() only", 1, x.undo());
    }

    @Sentence(promise = 14, says = "Returns the length that it had.")
    static void clearTextAnswersTheLength() {
        CallMigrator x = new CallMigrator();
        Check.due("clearText() of the first text", 0, x.clearText());
        fill(x, 1);
        Check.due("clearText() of one byte", 1, x.clearText());
        Check.due("clearText() of the empty text", 0, x.clearText());
        fill(x, 120);
        Check.due("clearText() of a full text", 120, x.clearText());
        fill(x, 123);
        Check.due("clearText() after refused bytes", 120, x.clearText());
    }

    @Sentence(promise = 15, says = "Replaces the program with the expression of the input text, which stays as it is.")
    static void parseLeavesTheText() {
        CallMigrator x = new CallMigrator();
        dueParsed(x, "a(05)", 2, "a(5)");
        Check.due("parse() again", 2, x.parse());
        Check.dueProgram(x, "a(5)");
        x.append(')');
        Check.due("parse() with a byte more", -15, x.parse());
        Check.due("parse() with a byte more, again", -15, x.parse());
        Check.due("clearText()", 6, x.clearText());
    }

    @Sentence(promise = 15, says = "The text must be one expression without spaces.")
    static void oneExpressionWithoutSpaces() {
        CallMigrator x = new CallMigrator();
        x.setOld(0, 2, 0);
        Check.dueSyntaxError(x, " ", 0);
        Check.dueSyntaxError(x, " x", 0);
        Check.dueSyntaxError(x, "x ", 1);
        Check.dueSyntaxError(x, "a (x,y)", 1);
        Check.dueSyntaxError(x, "a( x,y)", 2);
        Check.dueSyntaxError(x, "a(x ,y)", 3);
        Check.dueSyntaxError(x, "a(x, y)", 4);
        Check.dueSyntaxError(x, "a(x,y )", 5);
        Check.dueSyntaxError(x, "xx", 1);
        Check.dueSyntaxError(x, "x,y", 1);
        Check.dueSyntaxError(x, "a(x,y)a(x,y)", 6);
        Check.dueSyntaxError(x, "a(x,y)\n", 6);
    }

    @Sentence(promise = 15, says = "Undoable.")
    static void parseUndoable() {
        CallMigrator x = new CallMigrator();
        Check.type(x, "a(y)");
        Edges.undoable(x, "parse()", x::parse);
        Check.dueProgram(x, "0");
        Check.due("undo()", -5, x.undo());
        x.parse();
        Check.due("undo()", 0, x.undo());
        Check.due("clearText(), which undo() leaves", 4, x.clearText());
    }

    @Sentence(promise = 15, says = "Returns the number of nodes")
    static void parseAnswersTheNodes() {
        CallMigrator x = new CallMigrator();
        x.setNew(0, 4, 0);
        x.setNew(1, 0, 0);
        dueParsed(x, "x", 1, "x");
        dueParsed(x, "B()", 1, "B()");
        dueParsed(x, "A(B(),x,99,a(y))", 6, "A(B(),x,99,a(y))");
        String most = Edges.nested("a(", 29, "7");
        dueParsed(x, most, 30, most);
    }

    @Sentence(promise = 15, says = "-10 minus the syntax error position if the text is not an expression "
        + "(then nothing changes, and no error is counted)")
    static void aSyntaxErrorChangesNothing() {
        CallMigrator x = new CallMigrator();
        Check.parse(x, "b(x)");
        x.migrate();
        Check.dueSyntaxError(x, "", 0);
        Check.dueSyntaxError(x, "?", 0);
        Check.dueSyntaxError(x, "a(?", 2);
        Check.dueProgram(x, "b(x)");
        Check.due("left(2)", 1, x.left(2));
        for (int code = -5; code <= -2; code++) {
            Check.due("errorCount(" + code + ")", 0, x.errorCount(code));
        }
        Check.due("undo()", 1, x.undo());
    }

    @Sentence(promise = 15, says = "The syntax error position is the index of the first byte that cannot stand where it "
        + "stands")
    static void theFirstByteThatCannotStand() {
        CallMigrator x = new CallMigrator();
        x.setOld(0, 2, 0);
        Check.dueSyntaxError(x, "?!", 0);
        Check.dueSyntaxError(x, "a?!", 1);
        Check.dueSyntaxError(x, "a(?!", 2);
        Check.dueSyntaxError(x, "a(x?!", 3);
        Check.dueSyntaxError(x, "a(x,?!", 4);
        Check.dueSyntaxError(x, "a(x,y?!", 5);
        Check.dueSyntaxError(x, "a(x,y)?!", 6);
        Check.dueSyntaxError(x, "(", 0);
        Check.dueSyntaxError(x, "a((", 2);
        Check.dueSyntaxError(x, "a(x(", 3);
        Check.dueSyntaxError(x, "a(1(", 3);
        Check.dueSyntaxError(x, "1?", 1);
        Check.dueSyntaxError(x, "12?", 2);
        // No expression is longer than 111 bytes, so that a full text always has such a byte.
        String zeros = "B(),B(),B(),B()";
        x.setNew(0, 4, 0);
        x.setNew(1, 0, 0);
        String longest = "A(A(" + zeros + "),A(" + zeros + "),A(" + zeros + "),A(A(" + zeros + "),A(" + zeros
            + "),B(),C(B())))";
        Check.dueSyntaxError(x, longest + "x".repeat(120 - longest.length()), longest.length());
    }

    @Sentence(promise = 15, says = "or the length of the text if it ends too early")
    static void theTextEndsTooEarly() {
        CallMigrator x = new CallMigrator();
        x.setOld(0, 2, 0);
        String whole = "a(b(12),c(y))";
        Check.due("parse() of the whole text", 5, Check.parse(x, whole));
        // Each text is typed where a longer one stood, whose next byte must not be read on.
        for (int length = whole.length() - 1; length >= 0; length--) {
            Check.dueSyntaxError(x, whole.substring(0, length), length);
        }
        Check.dueSyntaxError(x, "b(".repeat(30), 60);
    }

    @Sentence(promise = 15, says = "the third digit of a number")
    static void theThirdDigit() {
        CallMigrator x = new CallMigrator();
        Check.dueSyntaxError(x, "100", 2);
        Check.dueSyntaxError(x, "000", 2);
        Check.dueSyntaxError(x, "007", 2);
        Check.dueSyntaxError(x, "1234567890", 2);
        Check.dueSyntaxError(x, "a(999)", 4);
    }

    @Sentence(promise = 15, says = "a number (1 or 2 digits, value 0 to 99)")
    static void numbers() {
        CallMigrator x = new CallMigrator();
        dueParsed(x, "0", 1, "0");
        dueParsed(x, "9", 1, "9");
        dueParsed(x, "00", 1, "0");
        dueParsed(x, "09", 1, "9");
        dueParsed(x, "10", 1, "10");
        dueParsed(x, "99", 1, "99");
        Check.due("value(0, 0)", 99, x.value(0, 0));
        Check.dueSyntaxError(x, "/", 0);
        Check.dueSyntaxError(x, ":", 0);
        Check.dueSyntaxError(x, "1/", 1);
        Check.dueSyntaxError(x, "1:", 1);
        Check.dueSyntaxError(x, "-1", 0);
        Check.dueSyntaxError(x, "+1", 0);
    }

    @Sentence(promise = 15, says = "a variable, x or y")
    static void variables() {
        CallMigrator x = new CallMigrator();
        dueParsed(x, "x", 1, "x");
        dueParsed(x, "y", 1, "y");
        Check.dueSyntaxError(x, "w", 0);
        Check.dueSyntaxError(x, "z", 0);
        Check.dueSyntaxError(x, "X", 0);
        Check.dueSyntaxError(x, "Y", 0);
    }

    @Sentence(promise = 15, says = "There are 6 old functions, numbered 0 to 5 and written a to f, 6 new functions, "
        + "numbered 0 to 5 and written A to F")
    static void lettersOfFunctions() {
        CallMigrator x = new CallMigrator();
        dueParsed(x, "a(b(c(d(e(f(x))))))", 7, "a(b(c(d(e(f(x))))))");
        dueParsed(x, "A(B(C(D(E(F(x))))))", 7, "A(B(C(D(E(F(x))))))");
        Check.dueSyntaxError(x, "`(x)", 0);
        Check.dueSyntaxError(x, "g(x)", 0);
        Check.dueSyntaxError(x, "@(x)", 0);
        Check.dueSyntaxError(x, "G(x)", 0);
        Check.dueSyntaxError(x, "P(x)", 0);
    }

    @Sentence(promise = 15, says = "the letter of an adapter that does not exist")
    static void adaptersThatDoNotExist() {
        CallMigrator x = new CallMigrator();
        String letters = "pqrs";
        for (int i = 0; i < 4; i++) {
            Check.dueSyntaxError(x, letters.charAt(i) + "(x)", 0);
        }
        for (int made = 1; made <= 4; made++) {
            Edges.makeAdapters(x, made);
            String last = letters.charAt(made - 1) + "(x)";
            Check.due("parse() of " + last, 2, Check.parse(x, last));
            Check.dueSyntaxError(x, "A(" + "qrst".charAt(made - 1) + "(x))", 2);
        }
        Check.dueSyntaxError(x, "o(x)", 0);
        CallMigrator y = new CallMigrator();
        Edges.makeAdapters(y, 1);
        y.undo();
        Check.dueSyntaxError(y, "p(x)", 0);
    }

    @Sentence(promise = 15, says = "the first byte of a 31st node")
    static void the31stNode() {
        CallMigrator x = new CallMigrator();
        x.setOld(1, 0, 0);
        String[] ends = {"y", "12", "a(x)", "b()", "A(1)"};
        for (String end : ends) {
            Check.dueSyntaxError(x, "a(".repeat(30) + end, 60);
        }
        x.setOld(0, 3, 0);
        String ten = "a(1,2,a(3,4,a(5,6,7)))";
        // 10 + 10 + 9 nodes within one more are 30; the last argument then is the 31st.
        String most = "a(" + ten + "," + ten + "," + "a(1,2,a(3,4,c(c(5))))";
        Check.due("parse() of 30 nodes", 30, Check.parse(x, most + ")"));
        String more = "a(" + ten + "," + ten + "," + "a(1,2,a(3,4,a(5,6,7)))";
        Check.dueSyntaxError(x, more + ")", more.lastIndexOf('7'));
    }

    @Sentence(promise = 15, says = "An expression has at most 30 nodes")
    static void thirtyNodes() {
        CallMigrator x = new CallMigrator();
        String most = Edges.nested("a(", 29, "x");
        dueParsed(x, most, 30, most);
        Check.dueSyntaxError(x, Edges.nested("a(", 30, "x"), 60);
        Check.due("nodes()", 30, x.nodes());
    }

    @Sentence(promise = 15, says = "a comma behind the last argument that the arity allows")
    static void aCommaTooMany() {
        CallMigrator x = new CallMigrator();
        x.setOld(0, 0, 0);
        Check.dueSyntaxError(x, "a(,)", 2);
        x.setOld(0, 1, 0);
        Check.dueSyntaxError(x, "a(1,", 3);
        Check.dueSyntaxError(x, "a(1,2)", 3);
        x.setOld(0, 3, 0);
        Check.dueSyntaxError(x, "a(1,2,3,4)", 7);
        x.setNew(0, 4, 0);
        Check.dueSyntaxError(x, "A(1,2,3,4,5)", 9);
        Check.dueSyntaxError(x, "A(1,b(1,2),3,4)", 7);
        x.allowAdapters(1);
        Check.parse(x, "b(x)");
        x.migrate();
        Check.dueSyntaxError(x, "p(1,2)", 3);
    }

    @Sentence(promise = 15, says = "a closing parenthesis ahead of the last argument that the arity demands")
    static void aParenthesisTooEarly() {
        CallMigrator x = new CallMigrator();
        Check.dueSyntaxError(x, "a()", 2);
        x.setOld(0, 2, 0);
        Check.dueSyntaxError(x, "a()", 2);
        Check.dueSyntaxError(x, "a(1)", 3);
        Check.dueSyntaxError(x, "a(1,)", 4);
        x.setOld(0, 3, 0);
        Check.dueSyntaxError(x, "a(1,2)", 5);
        x.setNew(0, 4, 0);
        Check.dueSyntaxError(x, "A(1,2,3)", 7);
        Check.dueSyntaxError(x, "A(1,b(),3,4)", 6);
    }

    @Sentence(promise = 15, says = "The number of arguments of a call of an old or new function or an adapter must be its "
        + "arity at the time of parsing.")
    static void aritiesAtTheTimeOfParsing() {
        CallMigrator x = new CallMigrator();
        String[] old = {"a()", "a(1)", "a(1,2)", "a(1,2,3)"};
        String[] news = {"A()", "A(1)", "A(1,2)", "A(1,2,3)", "A(1,2,3,4)"};
        for (int arity = 0; arity <= 4; arity++) {
            x.setNew(0, arity, 0);
            for (int given = 0; given <= 4; given++) {
                Check.due("whether " + news[given] + " is taken with arity " + arity,
                    given == arity ? given + 1 : -1, Math.max(-1, Check.parse(x, news[given])));
            }
        }
        for (int arity = 0; arity <= 3; arity++) {
            x.setOld(0, arity, 0);
            for (int given = 0; given <= 3; given++) {
                Check.due("whether " + old[given] + " is taken with arity " + arity,
                    given == arity ? given + 1 : -1, Math.max(-1, Check.parse(x, old[given])));
            }
        }
        x.allowAdapters(1);
        x.migrate();
        Check.dueProgram(x, "p(1,2,3)");
        Check.dueSyntaxError(x, "p(1,2)", 5);
        Check.dueSyntaxError(x, "p(1,2,3,4)", 7);
        Check.due("parse() of the adapter's call", 4, Check.parse(x, "p(1,2,3)"));
    }

    @Sentence(promise = 15, says = "a call: the letter of a function, an opening parenthesis, the arguments (expressions) "
        + "separated by commas, and a closing parenthesis")
    static void callsWithoutTheirParts() {
        CallMigrator x = new CallMigrator();
        x.setOld(0, 2, 0);
        x.setOld(1, 0, 0);
        Check.dueSyntaxError(x, "a", 1);
        Check.dueSyntaxError(x, "b", 1);
        Check.dueSyntaxError(x, "b)", 1);
        Check.dueSyntaxError(x, "ax,y)", 1);
        Check.dueSyntaxError(x, "a(xy)", 3);
        Check.dueSyntaxError(x, "a(x;y)", 3);
        Check.dueSyntaxError(x, "a(,y)", 2);
        Check.dueSyntaxError(x, "a(x,,y)", 4);
        Check.dueSyntaxError(x, "a(x,y", 5);
        Check.dueSyntaxError(x, "a[x,y]", 1);
        Check.dueSyntaxError(x, "a(x,y))", 6);
        dueParsed(x, "a(a(b(),1),b())", 5, "a(a(b(),1),b())");
    }

    @Sentence(promise = 15, says = "It keeps its shape when arities are changed afterwards: a call then has as many arguments "
        + "as it was parsed or made with; its value uses the coefficients of as many positions as it has arguments.")
    static void theShapeStays() {
        CallMigrator x = new CallMigrator();
        x.setOld(0, 2, 0);
        x.setOldTerm(0, 0, 1);
        x.setOldTerm(0, 1, 10);
        x.setOldTerm(0, 2, 50);
        Check.parse(x, "a(3,a(4,5))");
        for (int arity = 0; arity <= 3; arity++) {
            x.setOld(0, arity, 0);
            Check.dueProgram(x, "a(3,a(4,5))");
            Check.due("nodes()", 5, x.nodes());
            Check.due("value(0, 0) with arity " + arity, 543, x.value(0, 0));
        }
        // A call that was made keeps its shape too.
        CallMigrator y = new CallMigrator();
        y.setNewTerm(0, 0, 7);
        y.setOldTerm(0, 0, 7);
        y.map(0, 0);
        Check.parse(y, "a(5)");
        Check.due("migrate()", 1, y.migrate());
        y.setNewTerm(0, 1, 9);
        for (int arity = 0; arity <= 4; arity++) {
            y.setNew(0, arity, 0);
            Check.dueProgram(y, "A(5)");
            Check.due("value(0, 0) with arity " + arity, 35, y.value(0, 0));
        }
    }
}
