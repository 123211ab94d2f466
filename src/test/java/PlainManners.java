import java.math.BigInteger;
import java.util.ArrayList;
import java.util.Arrays;
import java.util.HashMap;
import java.util.HashSet;
import java.util.List;
import java.util.Map;
import java.util.Set;
import java.util.TreeSet;
import java.util.function.Function;

/** Manners read down their grammar into a tree, and what it stands for. */
final class PlainManners {
    /** A word, a name, a row (sequence), or a choice of rows. */
    static final class Node {
        String word;
        char name;
        List<Node> parts;
        boolean isChoice;
    }

    private static final class Fault extends RuntimeException {
        private static final long serialVersionUID = 1;
        final int kind;

        Fault(int kind) {
            this.kind = kind;
        }
    }

    private final String text;
    private final List<String> tokens = new ArrayList<>();
    private final List<Integer> places = new ArrayList<>();
    private int at = 0;
    private int items = 0;
    private char ruleName;
    final Map<Character, Node> rules = new HashMap<>();
    int kind = 0;
    int place = 0;

    PlainManners(String text) {
        this.text = text;
        int i = 0;
        while (i < text.length()) {
            char c = text.charAt(i);
            if (c == ' ' || c == '\n') {
                i++;
                continue;
            }
            int to = i + 1;
            while (Character.isLowerCase(c) && c < 128 && to < text.length()
                    && text.charAt(to) >= 'a' && text.charAt(to) <= 'z') {
                to++;
            }
            tokens.add(text.substring(i, to));
            places.add(i);
            i = to;
        }
        tokens.add("");
        places.add(text.length());
    }

    void read() {
        try {
            while (!now().isEmpty()) {
                readRule();
            }
        } catch (Fault f) {
            kind = f.kind;
            place = places.get(at);
        }
    }

    private String now() {
        return tokens.get(at);
    }

    private boolean isName() {
        return now().matches("[A-H]");
    }

    private void need(String sign) {
        if (!now().equals(sign)) {
            throw new Fault(1);
        }
        at++;
    }

    private void readRule() {
        if (!isName()) {
            throw new Fault(1);
        }
        ruleName = now().charAt(0);
        if (rules.containsKey(ruleName)) {
            throw new Fault(2);
        }
        at++;
        need("=");
        Node choice = readRows(0);
        need(";");
        rules.put(ruleName, choice);
    }

    private Node readRows(int open) {
        Node choice = new Node();
        choice.isChoice = true;
        choice.parts = new ArrayList<>();
        choice.parts.add(readRow(open));
        while (now().equals("|")) {
            at++;
            choice.parts.add(readRow(open));
        }
        return choice;
    }

    private void countItem() {
        items++;
        if (items > 120) {
            throw new Fault(4);
        }
    }

    private Node readRow(int open) {
        Node row = new Node();
        row.parts = new ArrayList<>();
        while (true) {
            Node item = new Node();
            if (now().matches("[a-z]{1,12}")) {
                countItem();
                item.word = now();
                at++;
            } else if (isName()) {
                if (now().charAt(0) <= ruleName) {
                    throw new Fault(3);
                }
                countItem();
                item.name = now().charAt(0);
                at++;
            } else if (now().equals("[")) {
                countItem();
                if (open == 4) {
                    throw new Fault(4);
                }
                at++;
                item = readRows(open + 1);
                need("]");
                Node nothing = new Node();
                nothing.parts = new ArrayList<>();
                item.parts.add(nothing);
            } else {
                return row;
            }
            row.parts.add(item);
        }
    }

    // ---- how many

    static BigInteger[] countsOf(char name, Map<Character, Node> rules, Map<Character, BigInteger[]> known) {
        BigInteger[] old = known.get(name);
        if (old == null) {
            Node rule = rules.get(name);
            old = rule == null ? zeros() : counts(rule, rules, known);
            known.put(name, old);
        }
        return old;
    }

    private static BigInteger[] zeros() {
        BigInteger[] out = new BigInteger[61];
        Arrays.fill(out, BigInteger.ZERO);
        return out;
    }

    private static BigInteger[] counts(Node n, Map<Character, Node> rules, Map<Character, BigInteger[]> known) {
        BigInteger[] out = zeros();
        if (n.word != null) {
            out[1] = BigInteger.ONE;
            return out;
        }
        if (n.parts == null) {
            return countsOf(n.name, rules, known);
        }
        if (!n.isChoice) {
            out[0] = BigInteger.ONE;
        }
        for (Node p : n.parts) {
            BigInteger[] c = counts(p, rules, known);
            BigInteger[] next = zeros();
            for (int i = 0; i <= 60; i++) {
                if (n.isChoice) {
                    next[i] = out[i].add(c[i]);
                }
                for (int j = 0; !n.isChoice && i + j <= 60; j++) {
                    next[i + j] = next[i + j].add(out[i].multiply(c[j]));
                }
            }
            out = next;
        }
        return out;
    }

    // ---- whether a question is one

    static Set<Integer> endsOf(char name, Map<Character, Node> rules, List<String> ws, int from,
            Map<String, Set<Integer>> known) {
        String key = name + "," + from;
        Set<Integer> old = known.get(key);
        if (old == null) {
            Node rule = rules.get(name);
            old = rule == null ? new TreeSet<>() : ends(rule, rules, ws, from, known);
            known.put(key, old);
        }
        return old;
    }

    private static Set<Integer> ends(Node n, Map<Character, Node> rules, List<String> ws, int from,
            Map<String, Set<Integer>> known) {
        Set<Integer> out = new TreeSet<>();
        if (n.word != null) {
            if (from < ws.size() && ws.get(from).equals(n.word)) {
                out.add(from + 1);
            }
            return out;
        }
        if (n.parts == null) {
            return endsOf(n.name, rules, ws, from, known);
        }
        if (n.isChoice) {
            for (Node p : n.parts) {
                out.addAll(ends(p, rules, ws, from, known));
            }
            return out;
        }
        out.add(from);
        for (Node p : n.parts) {
            Set<Integer> next = new TreeSet<>();
            for (int i : out) {
                next.addAll(ends(p, rules, ws, i, known));
            }
            out = next;
        }
        return out;
    }

    // ---- all questions, where they are few

    static final int FEW = 3000;

    /** All that a name stands for; null if that is too much. */
    static Set<List<String>> allOf(char name, Map<Character, Node> rules, Map<Character, Set<List<String>>> known) {
        if (known.containsKey(name)) {
            return known.get(name);
        }
        Node rule = rules.get(name);
        Set<List<String>> out = rule == null ? new HashSet<>() : all(rule, rules, known);
        known.put(name, out);
        return out;
    }

    private static Set<List<String>> all(Node n, Map<Character, Node> rules, Map<Character, Set<List<String>>> known) {
        Set<List<String>> out = new HashSet<>();
        if (n.word != null) {
            out.add(List.of(n.word));
            return out;
        }
        if (n.parts == null) {
            return allOf(n.name, rules, known);
        }
        if (!n.isChoice) {
            out.add(List.of());
        }
        for (Node p : n.parts) {
            Set<List<String>> more = all(p, rules, known);
            if (more == null) {
                return null;
            }
            if (n.isChoice) {
                out.addAll(more);
            } else {
                Set<List<String>> next = new HashSet<>();
                for (List<String> a : out) {
                    for (List<String> b : more) {
                        List<String> both = new ArrayList<>(a);
                        both.addAll(b);
                        next.add(both);
                    }
                    if (next.size() > FEW) {
                        return null;
                    }
                }
                out = next;
            }
            if (out.size() > FEW) {
                return null;
            }
        }
        return out;
    }

    // ---- the best question for a part of a row, where all are too many

    static boolean better(List<String> a, List<String> b) {
        if (a == null || b == null) {
            return a != null;
        }
        if (a.size() != b.size()) {
            return a.size() < b.size();
        }
        for (int i = 0; i < a.size(); i++) {
            int by = a.get(i).compareTo(b.get(i));
            if (by != 0) {
                return by < 0;
            }
        }
        return false;
    }

    static List<String> bestOf(char name, Map<Character, Node> rules, String row, int from, int to,
            Function<List<String>, String> cuesOf, Map<String, List<String>> known) {
        String key = name + "," + from + "," + to;
        if (!known.containsKey(key)) {
            Node rule = rules.get(name);
            known.put(key, rule == null ? null : best(rule, rules, row, from, to, cuesOf, known));
        }
        return known.get(key);
    }

    private static List<String> best(Node n, Map<Character, Node> rules, String row, int from, int to,
            Function<List<String>, String> cuesOf, Map<String, List<String>> known) {
        if (n.word != null) {
            List<String> one = List.of(n.word);
            return cuesOf.apply(one).equals(row.substring(from, to)) ? one : null;
        }
        if (n.parts == null) {
            return bestOf(n.name, rules, row, from, to, cuesOf, known);
        }
        if (n.isChoice) {
            List<String> out = null;
            for (Node p : n.parts) {
                List<String> q = best(p, rules, row, from, to, cuesOf, known);
                out = better(q, out) ? q : out;
            }
            return out;
        }
        List<List<String>> cuts = new ArrayList<>();
        for (int i = from; i <= to; i++) {
            cuts.add(i == from ? List.of() : null);
        }
        for (Node p : n.parts) {
            List<List<String>> next = new ArrayList<>();
            for (int j = from; j <= to; j++) {
                List<String> out = null;
                for (int i = from; i <= j; i++) {
                    List<String> a = cuts.get(i - from);
                    List<String> b = a == null ? null : best(p, rules, row, i, j, cuesOf, known);
                    if (b != null) {
                        List<String> both = new ArrayList<>(a);
                        both.addAll(b);
                        out = better(both, out) ? both : out;
                    }
                }
                next.add(out);
            }
            cuts = next;
        }
        return cuts.get(to - from);
    }
}
