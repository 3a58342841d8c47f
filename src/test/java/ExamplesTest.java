/** The five examples of the document's description, call by call. */
public final class ExamplesTest {
    private ExamplesTest() {
    }

    public static void main(String[] args) {
        argumentsThatChangePlaces();
        anAdapterWhereThereIsNoMapping();
        anEffectThatWouldBeLost();
        syntaxErrors();
        errors();
        Check.finish();
    }

    private static void argumentsThatChangePlaces() {
        CallMigrator x = new CallMigrator();
        Check.due("setOld(0, 2, 0)", 1, x.setOld(0, 2, 0));
        Check.due("setOldTerm(0, 0, 2)", 0, x.setOldTerm(0, 0, 2));
        Check.due("setOldTerm(0, 1, 3)", 0, x.setOldTerm(0, 1, 3));
        Check.due("setNew(0, 2, 0)", 1, x.setNew(0, 2, 0));
        Check.due("setNewTerm(0, 0, 3)", 0, x.setNewTerm(0, 0, 3));
        Check.due("setNewTerm(0, 1, 2)", 0, x.setNewTerm(0, 1, 2));
        Check.due("map(0, 0)", 0, x.map(0, 0));
        Check.due("setSource(0, 0, 1)", 0, x.setSource(0, 0, 1));
        Check.due("setSource(0, 1, 0)", 1, x.setSource(0, 1, 0));
        Check.due("clearText()", 0, x.clearText());
        Check.due("append(97)", 1, x.append(97));
        Check.due("append(40)", 2, x.append(40));
        Check.due("append(120)", 3, x.append(120));
        Check.due("append(44)", 4, x.append(44));
        Check.due("append(55)", 5, x.append(55));
        Check.due("append(41)", 6, x.append(41));
        Check.due("parse()", 3, x.parse());
        Check.due("value(5, 0)", 31, x.value(5, 0));
        Check.due("migrate()", 1, x.migrate());
        Check.due("value(5, 0)", 31, x.value(5, 0));
        Check.due("textByte(-1)", 6, x.textByte(-1));
        Check.due("textByte(2)", 55, x.textByte(2));
    }

    private static void anAdapterWhereThereIsNoMapping() {
        CallMigrator x = new CallMigrator();
        Check.due("clearText()", 0, x.clearText());
        Check.due("append(98)", 1, x.append(98));
        Check.due("append(40)", 2, x.append(40));
        Check.due("append(120)", 3, x.append(120));
        Check.due("append(41)", 4, x.append(41));
        Check.due("parse()", 2, x.parse());
        Check.due("migrate()", 0, x.migrate());
        Check.due("left(2)", 1, x.left(2));
        Check.due("allowAdapters(1)", 0, x.allowAdapters(1));
        Check.due("migrate()", 1, x.migrate());
        Check.due("textByte(0)", 112, x.textByte(0));
        Check.due("adapterOf(1)", 0, x.adapterOf(1));
    }

    private static void anEffectThatWouldBeLost() {
        CallMigrator x = new CallMigrator();
        Check.due("map(0, 0)", 1, x.map(0, 0));
        Check.due("setNew(1, 0, 1)", 1, x.setNew(1, 0, 1));
        Check.due("setConstant(0, 0, 0)", 1, x.setConstant(0, 0, 0));
        Check.due("clearText()", 0, x.clearText());
        Check.due("append(97)", 1, x.append(97));
        Check.due("append(40)", 2, x.append(40));
        Check.due("append(66)", 3, x.append(66));
        Check.due("append(40)", 4, x.append(40));
        Check.due("append(41)", 5, x.append(41));
        Check.due("append(41)", 6, x.append(41));
        Check.due("parse()", 2, x.parse());
        Check.due("migrate()", 0, x.migrate());
        Check.due("left(5)", 1, x.left(5));
    }

    private static void syntaxErrors() {
        CallMigrator x = new CallMigrator();
        Check.due("clearText()", 0, x.clearText());
        Check.due("append(97)", 1, x.append(97));
        Check.due("append(40)", 2, x.append(40));
        Check.due("append(120)", 3, x.append(120));
        Check.due("append(44)", 4, x.append(44));
        Check.due("append(121)", 5, x.append(121));
        Check.due("append(41)", 6, x.append(41));
        Check.due("parse()", -13, x.parse());
        Check.due("clearText()", 6, x.clearText());
        Check.due("append(97)", 1, x.append(97));
        Check.due("append(40)", 2, x.append(40));
        Check.due("parse()", -12, x.parse());
    }

    private static void errors() {
        CallMigrator x = new CallMigrator();
        Check.due("unmap(0)", -3, x.unmap(0));
        Check.due("setOld(0, 4, 0)", -2, x.setOld(0, 4, 0));
        Check.due("undo()", -5, x.undo());
    }
}
