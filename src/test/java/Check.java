/** What the tests share: comparing answers, typing a text and reading the program's text. */
final class Check {
    private static int wrong = 0;
    private static int made = 0;
    private static String subject = "";

    private Check() {
    }

    /** What the checks from here on are about; it is printed ahead of each wrong answer. */
    static void about(String words) {
        subject = words;
    }

    /** How many checks were made so far. */
    static int made() {
        return made;
    }

    static void due(String call, long want, long got) {
        made++;
        if (got != want) {
            wrong++;
            System.out.println(subject + call + " answered " + got + ", due is " + want);
        }
    }

    static void dueText(String what, String want, String got) {
        made++;
        if (!want.equals(got)) {
            wrong++;
            System.out.println(subject + what + " is " + got + ", due is " + want);
        }
    }

    static void type(CallMigrator x, String text) {
        x.clearText();
        for (int i = 0; i < text.length(); i++) {
            due("append of byte " + i + " of " + text, i + 1, x.append(text.charAt(i)));
        }
    }

    static int parse(CallMigrator x, String text) {
        type(x, text);
        return x.parse();
    }

    /** A text that is no expression: the answer, and that nothing changes. */
    static void dueSyntaxError(CallMigrator x, String text, int position) {
        type(x, text);
        long typed = x.digest();
        due("parse() of " + text, -10 - position, x.parse());
        due("digest() after the syntax error in " + text, typed, x.digest());
    }

    /** A call that was refused: the answer, and that nothing but its counter changed. */
    static void dueRefusal(CallMigrator x, String call, int code, int answer, int counterBefore) {
        due(call, code, answer);
        due("the counter after " + call, counterBefore + 1, x.errorCount(code));
    }

    static void dueProgram(CallMigrator x, String want) {
        dueText("the program", want, textOf(x));
    }

    static String textOf(CallMigrator x) {
        StringBuilder text = new StringBuilder();
        int length = x.textByte(-1);
        for (int i = 0; i < length; i++) {
            text.append((char) x.textByte(i));
        }
        return text.toString();
    }

    /** The numbers of sites left for the reasons 1 to 7, written one behind the other. */
    static void dueLeft(CallMigrator x, String want) {
        StringBuilder got = new StringBuilder();
        for (int reason = 1; reason <= 7; reason++) {
            got.append(x.left(reason));
        }
        dueText("left(1) to left(7)", want, got.toString());
    }

    static void finish() {
        if (wrong != 0) {
            System.out.println(wrong + " answers are not as due");
            System.exit(1);
        }
    }
}
