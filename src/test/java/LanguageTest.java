import java.io.IOException;
import java.lang.management.ManagementFactory;
import java.lang.reflect.Constructor;
import java.lang.reflect.Field;
import java.lang.reflect.Method;
import java.lang.reflect.Modifier;
import java.nio.file.Files;
import java.nio.file.Path;
import java.util.Arrays;
import java.util.Set;
import java.util.TreeSet;

/** The face of the document, and those rules of LANGUAGE.md that a program can look for. */
public final class LanguageTest {
    private static final String[] FACE = {
        "int setOld(int,int,int)", "int setNew(int,int,int)", "int setOldTerm(int,int,int)",
        "int setNewTerm(int,int,int)", "int map(int,int)", "int unmap(int)", "int setSource(int,int,int)",
        "int setConstant(int,int,int)", "int isFaithful(int)", "int allowAdapters(int)",
        "int adapterOf(int)", "int append(int)", "int clearText()", "int parse()", "int migrate()",
        "int left(int)", "int sites()", "int nodes()", "int value(int,int)", "int textByte(int)",
        "int undo()", "int errorCount(int)", "long digest()"};
    private static final String[] FORBIDDEN = {
        "throw", "try", "catch", "finally", "synchronized", "assert", "static \\{", "->", "::", "Exact\\(",
        "protected", "volatile", "native", "Object", "equals", "hashCode", "toString"};

    private LanguageTest() {
    }

    public static void main(String[] args) throws IOException {
        constants();
        face();
        classesInside();
        forbiddenWords();
        callsMakeNoObjects();
        Check.finish();
    }

    private static void constants() {
        Check.due("OUT_OF_RANGE", -2, CallMigrator.OUT_OF_RANGE);
        Check.due("MISSING", -3, CallMigrator.MISSING);
        Check.due("FULL", -4, CallMigrator.FULL);
        Check.due("NOTHING_SAVED", -5, CallMigrator.NOTHING_SAVED);
        Check.due("NONE", -1, CallMigrator.NONE);
    }

    private static void face() {
        Class<?> c = CallMigrator.class;
        Check.due("modifiers of the class", Modifier.PUBLIC | Modifier.FINAL, c.getModifiers());
        Set<String> seen = new TreeSet<>();
        Set<String> names = new TreeSet<>();
        for (Method m : c.getDeclaredMethods()) {
            if (!Modifier.isPrivate(m.getModifiers())) {
                String parameters = Arrays.toString(m.getParameterTypes()).replaceAll("[\\[\\] ]", "");
                seen.add(m.getReturnType() + " " + m.getName() + "(" + parameters + ")");
                names.add(m.getName());
                Check.due("modifiers of " + m.getName(), Modifier.PUBLIC, m.getModifiers());
            }
        }
        Check.dueText("the methods", new TreeSet<>(Arrays.asList(FACE)).toString(), seen.toString());
        privateNames(c, names);
        Set<String> fields = new TreeSet<>();
        for (Field f : c.getDeclaredFields()) {
            if (!Modifier.isPrivate(f.getModifiers())) {
                fields.add(f.getName());
            }
        }
        Check.dueText("the constants", "[FULL, MISSING, NONE, NOTHING_SAVED, OUT_OF_RANGE]", fields.toString());
        Constructor<?>[] made = c.getDeclaredConstructors();
        Check.due("the number of constructors", 1, made.length);
        Check.due("the parameters of the constructor", 0, made[0].getParameterCount());
        Check.due("the modifiers of the constructor", Modifier.PUBLIC, made[0].getModifiers());
    }

    private static void privateNames(Class<?> c, Set<String> publicNames) {
        for (Method m : c.getDeclaredMethods()) {
            if (Modifier.isPrivate(m.getModifiers()) && publicNames.contains(m.getName())) {
                Check.due("private methods with the public name " + m.getName(), 0, 1);
            }
            if (m.getParameterCount() > 7) {
                Check.due("parameters of " + m.getName(), 7, m.getParameterCount());
            }
        }
        for (Class<?> inside : c.getDeclaredClasses()) {
            privateNames(inside, publicNames);
        }
    }

    private static void classesInside() {
        Class<?>[] inside = CallMigrator.class.getDeclaredClasses();
        Check.due("whether the classes are few", 1, inside.length <= 11 ? 1 : 0);
        for (Class<?> c : inside) {
            Check.due("whether " + c.getName() + " is static", 1, Modifier.isStatic(c.getModifiers()) ? 1 : 0);
            Check.due("whether " + c.getName() + " is hidden", 0, c.getModifiers() & (Modifier.PUBLIC | Modifier.PROTECTED));
            for (Field f : c.getDeclaredFields()) {
                int m = f.getModifiers();
                Check.due("whether " + f + " is no changing static field", 1,
                    !Modifier.isStatic(m) || Modifier.isFinal(m) ? 1 : 0);
            }
        }
    }

    private static String source() throws IOException {
        return Files.readString(Path.of("src/main/java/CallMigrator.java"));
    }

    private static void forbiddenWords() throws IOException {
        String code = source().replaceAll("(?s)/\\*.*?\\*/", "").replaceAll("//.*", "");
        for (String word : FORBIDDEN) {
            boolean isWord = Character.isLetter(word.charAt(0)) && Character.isLetter(word.charAt(word.length() - 1));
            String pattern = isWord ? "\\b" + word + "\\b" : word;
            Check.due("places with " + word, 0, code.split(pattern, -1).length - 1);
        }
        String imports = code.replaceAll("(?s)public final class.*", "").trim();
        Check.dueText("the imports", "import java.util.Arrays;", imports);
    }

    /** All rows are made with the object, so that the room of a run does not fill call by call. */
    private static void callsMakeNoObjects() {
        com.sun.management.ThreadMXBean threads =
            (com.sun.management.ThreadMXBean) ManagementFactory.getThreadMXBean();
        long id = Thread.currentThread().getId();
        long made = Long.MAX_VALUE;
        for (int round = 0; round < 5; round++) {
            CallMigrator x = new CallMigrator();
            long before = threads.getThreadAllocatedBytes(id);
            useAllMethods(x);
            made = Math.min(made, threads.getThreadAllocatedBytes(id) - before);
        }
        Check.due("whether the calls make next to nothing", 1, made < 2000 ? 1 : 0);
    }

    private static void useAllMethods(CallMigrator x) {
        for (int i = 0; i < 20; i++) {
            x.setOld(0, 1, 0);
            x.setNew(0, 1 + i % 4, 0);
            x.setOldTerm(0, 1, i);
            x.setNewTerm(0, 1, i);
            x.map(0, 0);
            x.setSource(0, 1, 0);
            x.setConstant(0, 1, 0);
            x.allowAdapters(i % 2);
            x.clearText();
            x.append('a');
            x.append('(');
            x.append('x');
            x.append(')');
            x.parse();
            x.migrate();
            x.isFaithful(0);
            x.adapterOf(0);
            x.left(1);
            x.value(1, 2);
            x.textByte(0);
            x.undo();
            x.errorCount(-2);
            x.sites();
            x.nodes();
            x.digest();
        }
    }
}
