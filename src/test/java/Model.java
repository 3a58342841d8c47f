import java.util.ArrayList;
import java.util.Arrays;
import java.util.List;

/**
 * The document once more, written with trees, texts and copies of whole states: slow and plain, so
 * that a fault in the one is not likely to stand in the other.
 */
final class Model {
    private static final String OLD = "abcdef";
    private static final String NEW = "ABCDEF";
    private static final String ADAPTER = "pqrs";

    /** A function: arity, effect flag and the terms, the constant one first. */
    private static final class Function {
        int arity = 1;
        int effect = 0;
        int[] terms = new int[5];

        Function copy() {
            Function f = new Function();
            f.arity = arity;
            f.effect = effect;
            f.terms = terms.clone();
            return f;
        }
    }

    /** A node; sign is '#' for a number, or else the letter of a variable or a function. */
    private static final class Node {
        final char sign;
        final int number;
        final List<Node> arguments;

        Node(char sign, int number, List<Node> arguments) {
            this.sign = sign;
            this.number = number;
            this.arguments = arguments;
        }

        boolean isLeaf() {
            return sign == '#' || sign == 'x' || sign == 'y';
        }

        int size() {
            int size = 1;
            for (Node a : arguments) {
                size += a.size();
            }
            return size;
        }

        int sites() {
            int count = OLD.indexOf(sign) >= 0 ? 1 : 0;
            for (Node a : arguments) {
                count += a.sites();
            }
            return count;
        }

        String text() {
            if (sign == '#') {
                return Integer.toString(number);
            }
            if (isLeaf()) {
                return String.valueOf(sign);
            }
            List<String> parts = new ArrayList<>();
            for (Node a : arguments) {
                parts.add(a.text());
            }
            return sign + "(" + String.join(",", parts) + ")";
        }
    }

    private static final class State {
        List<Function> olds = new ArrayList<>();
        List<Function> news = new ArrayList<>();
        List<Function> adapters = new ArrayList<>();
        List<Integer> adapterOwners = new ArrayList<>();
        Integer[] targets = new Integer[6];
        /** Each template is four texts: "s1" for source 1, "c7" for the constant 7. */
        String[][] templates = new String[6][];
        int allowed = 0;
        Node program = new Node('#', 0, List.of());
        int[] left = new int[8];

        State copy() {
            State s = new State();
            for (Function f : olds) {
                s.olds.add(f.copy());
            }
            for (Function f : news) {
                s.news.add(f.copy());
            }
            s.adapters.addAll(adapters);
            s.adapterOwners.addAll(adapterOwners);
            s.targets = targets.clone();
            for (int i = 0; i < 6; i++) {
                s.templates[i] = templates[i] == null ? null : templates[i].clone();
            }
            s.allowed = allowed;
            s.program = program;
            s.left = left.clone();
            return s;
        }
    }

    private State state = new State();
    private final List<State> saved = new ArrayList<>();
    private final StringBuilder input = new StringBuilder();
    private final int[] errors = new int[6];

    Model() {
        for (int i = 0; i < 6; i++) {
            state.olds.add(new Function());
            state.news.add(new Function());
        }
    }

    private int error(int code) {
        errors[-code]++;
        return code;
    }

    private static boolean outside(int v, int low, int high) {
        return v < low || v > high;
    }

    private void save() {
        saved.add(state.copy());
        if (saved.size() > 4) {
            saved.remove(0);
        }
    }

    int setOld(int f, int arity, int effect) {
        return outside(arity, 0, 3) ? error(-2) : setShape(state.olds, f, arity, effect);
    }

    int setNew(int f, int arity, int effect) {
        return outside(arity, 0, 4) ? error(-2) : setShape(state.news, f, arity, effect);
    }

    private int setShape(List<Function> functions, int f, int arity, int effect) {
        if (outside(f, 0, 5) || outside(effect, 0, 1)) {
            return error(-2);
        }
        save();
        int previous = functions.get(f).arity;
        functions.get(f).arity = arity;
        functions.get(f).effect = effect;
        return previous;
    }

    int setOldTerm(int f, int position, int value) {
        return setTerm(state.olds, f, position, value);
    }

    int setNewTerm(int f, int position, int value) {
        return setTerm(state.news, f, position, value);
    }

    private int setTerm(List<Function> functions, int f, int position, int value) {
        if (outside(f, 0, 5) || outside(position, -1, 3) || outside(value, 0, 99)) {
            return error(-2);
        }
        save();
        int previous = functions.get(f).terms[position + 1];
        functions.get(f).terms[position + 1] = value;
        return previous;
    }

    int map(int old, int target) {
        if (outside(old, 0, 5) || outside(target, 0, 5)) {
            return error(-2);
        }
        save();
        if (state.targets[old] == null) {
            state.templates[old] = new String[] {"s0", "s1", "s2", "c0"};
        }
        state.targets[old] = target;
        return faithful(old) ? 1 : 0;
    }

    int unmap(int old) {
        if (outside(old, 0, 5)) {
            return error(-2);
        }
        if (state.targets[old] == null) {
            return error(-3);
        }
        save();
        int target = state.targets[old];
        state.targets[old] = null;
        state.templates[old] = null;
        return target;
    }

    int setSource(int old, int position, int source) {
        return outside(source, 0, 2) ? error(-2) : setEntry(old, position, "s" + source);
    }

    int setConstant(int old, int position, int value) {
        return outside(value, 0, 99) ? error(-2) : setEntry(old, position, "c" + value);
    }

    private int setEntry(int old, int position, String entry) {
        if (outside(old, 0, 5) || outside(position, 0, 3)) {
            return error(-2);
        }
        if (state.targets[old] == null) {
            return error(-3);
        }
        save();
        state.templates[old][position] = entry;
        return faithful(old) ? 1 : 0;
    }

    int isFaithful(int old) {
        if (outside(old, 0, 5)) {
            return error(-2);
        }
        if (state.targets[old] == null) {
            return error(-3);
        }
        return faithful(old) ? 1 : 0;
    }

    private String[] usedEntries(int old) {
        return Arrays.copyOf(state.templates[old], state.news.get(state.targets[old]).arity);
    }

    private static int numberIn(String entry) {
        return Integer.parseInt(entry.substring(1));
    }

    private boolean faithful(int old) {
        Function from = state.olds.get(old);
        int[] given = new int[4];
        int[] to = state.news.get(state.targets[old]).terms;
        given[0] = to[0];
        String[] used = usedEntries(old);
        for (int i = 0; i < used.length; i++) {
            int number = numberIn(used[i]);
            if (used[i].startsWith("c")) {
                given[0] += to[i + 1] * number;
            } else if (number < from.arity) {
                given[number + 1] += to[i + 1];
            } else {
                return false;
            }
        }
        for (int i = 0; i <= from.arity; i++) {
            if ((given[i] - from.terms[i]) % 1000 != 0) {
                return false;
            }
        }
        return true;
    }

    int allowAdapters(int allowed) {
        if (outside(allowed, 0, 1)) {
            return error(-2);
        }
        save();
        int previous = state.allowed;
        state.allowed = allowed;
        return previous;
    }

    int adapterOf(int old) {
        if (outside(old, 0, 5)) {
            return error(-2);
        }
        int adapter = state.adapterOwners.indexOf(old);
        return adapter < 0 ? error(-3) : adapter;
    }

    int append(int value) {
        if (outside(value, 0, 127)) {
            return error(-2);
        }
        if (input.length() == 120) {
            return error(-4);
        }
        input.append((char) value);
        return input.length();
    }

    int clearText() {
        int length = input.length();
        input.setLength(0);
        return length;
    }

    /** Carries the position of a syntax error. */
    private static final class Wrong extends Exception {
        private static final long serialVersionUID = 1L;
        final int position;

        Wrong(int position) {
            this.position = position;
        }
    }

    private int at;
    private int begun;

    int parse() {
        at = 0;
        begun = 0;
        Node read;
        try {
            read = expression();
            if (at < input.length()) {
                throw new Wrong(at);
            }
        } catch (Wrong wrong) {
            return -10 - wrong.position;
        }
        save();
        state.program = read;
        return read.size();
    }

    // A zero byte is no sign of an expression, so it may stand for the end of the text too.
    private char peek() {
        return at < input.length() ? input.charAt(at) : 0;
    }

    private void expect(char sign) throws Wrong {
        if (peek() != sign) {
            throw new Wrong(at);
        }
        at++;
    }

    private Node expression() throws Wrong {
        char sign = peek();
        begun++;
        if (begun > 30) {
            throw new Wrong(at);
        }
        if (sign == 'x' || sign == 'y') {
            at++;
            return new Node(sign, 0, List.of());
        }
        if (Character.isDigit(sign)) {
            int start = at;
            while (Character.isDigit(peek())) {
                if (at - start == 2) {
                    throw new Wrong(at);
                }
                at++;
            }
            return new Node('#', Integer.parseInt(input.substring(start, at)), List.of());
        }
        Function function = functionOf(sign);
        if (function == null) {
            throw new Wrong(at);
        }
        at++;
        expect('(');
        List<Node> arguments = new ArrayList<>();
        while (arguments.size() < function.arity) {
            if (!arguments.isEmpty()) {
                expect(',');
            }
            arguments.add(expression());
        }
        expect(')');
        return new Node(sign, 0, arguments);
    }

    private Function functionOf(char sign) {
        if (OLD.indexOf(sign) >= 0) {
            return state.olds.get(OLD.indexOf(sign));
        }
        if (NEW.indexOf(sign) >= 0) {
            return state.news.get(NEW.indexOf(sign));
        }
        int adapter = ADAPTER.indexOf(sign);
        return adapter >= 0 && adapter < state.adapters.size() ? state.adapters.get(adapter) : null;
    }

    private int total;
    private int replaced;

    int migrate() {
        save();
        state.left = new int[8];
        total = state.program.size();
        replaced = 0;
        state.program = treat(state.program);
        return replaced;
    }

    private Node treat(Node node) {
        List<Node> arguments = new ArrayList<>();
        for (Node a : node.arguments) {
            arguments.add(treat(a));
        }
        Node site = new Node(node.sign, node.number, arguments);
        int old = OLD.indexOf(site.sign);
        if (old < 0) {
            return site;
        }
        int reason = simpleReason(old, site);
        if (reason == 2 || reason == 3) {
            Node adapted = adapt(old, site);
            if (adapted != null) {
                replaced++;
                return adapted;
            }
        }
        if (reason == 0) {
            Node moved = moved(old, site);
            if (total - site.size() + moved.size() <= 30) {
                total += moved.size() - site.size();
                replaced++;
                return moved;
            }
            reason = 7;
        }
        state.left[reason]++;
        return site;
    }

    private Node adapt(int old, Node site) {
        if (state.allowed == 0) {
            return null;
        }
        if (!state.adapterOwners.contains(old)) {
            if (state.adapters.size() == 4) {
                return null;
            }
            state.adapters.add(state.olds.get(old).copy());
            state.adapterOwners.add(old);
        }
        return new Node(ADAPTER.charAt(state.adapterOwners.indexOf(old)), 0, site.arguments);
    }

    private Node moved(int old, Node site) {
        List<Node> arguments = new ArrayList<>();
        for (String entry : usedEntries(old)) {
            arguments.add(entry.startsWith("s") ? site.arguments.get(numberIn(entry))
                : new Node('#', numberIn(entry), List.of()));
        }
        return new Node(NEW.charAt(state.targets[old]), 0, arguments);
    }

    /** The first of the reasons 1 to 6 that applies, without regard to adapters; 0 if none does. */
    private int simpleReason(int old, Node site) {
        if (site.arguments.size() != state.olds.get(old).arity) {
            return 1;
        }
        if (state.targets[old] == null) {
            return 2;
        }
        if (!faithful(old)) {
            return 3;
        }
        List<Integer> order = new ArrayList<>();
        for (String entry : usedEntries(old)) {
            if (entry.startsWith("s") && effect(site.arguments.get(numberIn(entry)))) {
                order.add(numberIn(entry));
            }
        }
        if (order.stream().distinct().count() != order.size()) {
            return 4;
        }
        for (int i = 0; i < site.arguments.size(); i++) {
            if (effect(site.arguments.get(i)) && !order.contains(i)) {
                return 5;
            }
        }
        return order.stream().sorted().toList().equals(order) ? 0 : 6;
    }

    private boolean effect(Node node) {
        if (!node.isLeaf() && functionOf(node.sign).effect == 1) {
            return true;
        }
        return node.arguments.stream().anyMatch(this::effect);
    }

    int left(int reason) {
        return outside(reason, 1, 7) ? error(-2) : state.left[reason];
    }

    int sites() {
        return state.program.sites();
    }

    int nodes() {
        return state.program.size();
    }

    int value(int x, int y) {
        if (outside(x, 0, 999) || outside(y, 0, 999)) {
            return error(-2);
        }
        return valueOf(state.program, x, y);
    }

    private int valueOf(Node node, int x, int y) {
        switch (node.sign) {
            case '#': return node.number;
            case 'x': return x;
            case 'y': return y;
            default: break;
        }
        int[] terms = functionOf(node.sign).terms;
        long sum = terms[0];
        for (int i = 0; i < node.arguments.size(); i++) {
            sum += (long) terms[i + 1] * valueOf(node.arguments.get(i), x, y);
        }
        return (int) (sum % 1000);
    }

    int textByte(int index) {
        if (index < -1) {
            return error(-2);
        }
        String text = state.program.text();
        if (index == -1) {
            return text.length();
        }
        return index < text.length() ? text.charAt(index) : -1;
    }

    int undo() {
        if (saved.isEmpty()) {
            return error(-5);
        }
        state = saved.remove(saved.size() - 1);
        return saved.size();
    }

    int errorCount(int code) {
        return outside(code, -5, -2) ? error(-2) : errors[-code];
    }

    long digest() {
        List<Integer> values = new ArrayList<>();
        for (int code = 2; code <= 5; code++) {
            values.add(errors[code]);
        }
        values.add(input.length());
        List<Function> functions = new ArrayList<>(state.olds);
        functions.addAll(state.news);
        for (Function f : functions) {
            values.add(f.arity);
            values.add(f.effect);
            for (int term : f.terms) {
                values.add(term);
            }
        }
        for (int old = 0; old < 6; old++) {
            values.add(state.targets[old] == null ? 0 : faithful(old) ? 2 : 1);
            values.add(state.adapterOwners.indexOf(old));
        }
        values.add(state.allowed);
        for (char c : state.program.text().toCharArray()) {
            values.add((int) c);
        }
        values.add(sites());
        for (int reason = 1; reason <= 7; reason++) {
            values.add(state.left[reason]);
        }
        values.add(saved.size());
        long h = 2683;
        for (int v : values) {
            h = 31 * h + v;
        }
        return h;
    }

    // What follows serves the driver alone: it chooses its calls by the state.

    int arityOf(char sign) {
        Function function = functionOf(sign);
        return function == null ? 0 : function.arity;
    }

    int adapterCount() {
        return state.adapters.size();
    }

    String programText() {
        return state.program.text();
    }
}
