import java.util.ArrayList;
import java.util.HashMap;
import java.util.HashSet;
import java.util.LinkedHashMap;
import java.util.LinkedHashSet;
import java.util.List;
import java.util.Map;
import java.util.Set;
import java.util.TreeMap;
import java.util.regex.Matcher;
import java.util.regex.Pattern;

/**
 * A second reading of the document, over texts, lists and sets, without a thought for space. It
 * shares no line with the program, so that a slip in one of them shows as a difference.
 */
final class Oracle {
    private static final Pattern TOKEN = Pattern.compile(
            "[a-z][a-z0-9]*|[A-Z][A-Za-z0-9]*|[0-9]+|:-|!=|<=|>=|[^ ]");
    private static final Set<String> WORDS = Set.of("is", "count", "sum", "least", "most");
    private static final List<String> TOTALS = List.of("", "count", "sum", "least", "most");

    static final class Token {
        final String text;
        final int place;

        Token(String text, int place) {
            this.text = text;
            this.place = place;
        }

        boolean is(String... texts) {
            return List.of(texts).contains(text);
        }

        boolean isName() {
            return text.matches("[a-z][a-z0-9]{0,5}") && !WORDS.contains(text);
        }

        boolean isVariable() {
            return text.matches("[A-Z][A-Za-z0-9]{0,3}");
        }

        boolean isNumber() {
            return text.matches("[0-9]{1,9}");
        }

        boolean isRelation() {
            return is("=", "!=", "<", "<=", ">", ">=");
        }
    }

    static final class Part {
        int kind;
        int place;
        Token name;
        String sign = "";
        final List<String> terms = new ArrayList<>();

        boolean asks() {
            return kind < 2;
        }

        Set<String> variables() {
            return variables(terms);
        }

        static Set<String> variables(List<String> terms) {
            Set<String> found = new LinkedHashSet<>();
            for (String term : terms) {
                if (isVariable(term)) {
                    found.add(term);
                }
            }
            return found;
        }

        static boolean isVariable(String term) {
            return Character.isUpperCase(term.charAt(0));
        }

        List<Integer> known(Set<String> valued) {
            List<Integer> known = new ArrayList<>();
            for (int i = 0; i < terms.size(); i++) {
                String term = terms.get(i);
                if (!term.equals("_") && (!isVariable(term) || valued.contains(term))) {
                    known.add(i);
                }
            }
            return known;
        }
    }

    static final class Clause {
        Part head;
        int total;
        int totalPlace = -1;
        boolean isRule;
        final List<Part> body = new ArrayList<>();
        final Map<String, Integer> variables = new LinkedHashMap<>();
        final List<int[]> plan = new ArrayList<>();
    }

    private static final class Refused extends RuntimeException {
        private static final long serialVersionUID = 1;
        final int place;

        Refused(int place) {
            this.place = place;
        }
    }

    private final List<Token> tokens = new ArrayList<>();
    private int at = 0;
    int faultKind = 0;
    int faultPlace = 0;
    final List<Clause> clauses = new ArrayList<>();
    final List<Clause> rules = new ArrayList<>();
    final List<String> names = new ArrayList<>();
    final Map<String, Integer> sizes = new HashMap<>();
    final Map<String, Set<String>> hanging = new HashMap<>();
    final Map<String, Integer> strata = new HashMap<>();

    Oracle(String tape) {
        Matcher matcher = TOKEN.matcher(tape);
        while (matcher.find()) {
            tokens.add(new Token(matcher.group(), matcher.start()));
        }
        tokens.add(new Token("", tape.length()));
        try {
            while (!next().is("")) {
                clauses.add(clause());
            }
        } catch (Refused refused) {
            faultKind = 1;
            faultPlace = refused.place;
            return;
        }
        laterFaults();
    }

    private Token next() {
        return tokens.get(at);
    }

    private static void refuseUnless(boolean good, Token token) {
        if (!good) {
            throw new Refused(token.place);
        }
    }

    private Token take(String text) {
        refuseUnless(next().is(text), next());
        return tokens.get(at++);
    }

    private Clause clause() {
        Clause clause = new Clause();
        Token first = next();
        clause.head = atom(clause, 9);
        refuseUnless(next().is(".", ":-"), next());
        if (next().is(".")) {
            int open = Integer.MAX_VALUE;
            for (int place : clause.variables.values()) {
                open = Math.min(open, place);
            }
            if (clause.totalPlace >= 0) {
                open = Math.min(open, clause.totalPlace);
            }
            if (open != Integer.MAX_VALUE) {
                throw new Refused(open);
            }
        } else {
            clause.isRule = true;
            refuseUnless(rules.size() < 30, first);
            do {
                at++;
                refuseUnless(clause.body.size() < 6, next());
                clause.body.add(part(clause));
            } while (next().is(","));
            rules.add(clause);
        }
        take(".");
        return clause;
    }

    private Part part(Clause clause) {
        Token first = next();
        Part part;
        if (first.is("!")) {
            at++;
            part = atom(clause, 1);
        } else if (first.isName() && tokens.get(at + 1).is("(")) {
            long asked = clause.body.stream().filter(other -> other.kind == 0).count();
            refuseUnless(asked < 3, first);
            part = atom(clause, 0);
        } else {
            part = new Part();
            part.terms.add(term(clause));
            boolean is = next().is("is") && first.isVariable();
            refuseUnless(is || next().isRelation(), next());
            part.kind = is ? 3 : 2;
            part.sign = tokens.get(at++).text;
            part.terms.add(term(clause));
            if (is) {
                refuseUnless(next().is("+", "-", "*", "/", "%"), next());
                at++;
                part.terms.add(term(clause));
            }
        }
        part.place = first.place;
        return part;
    }

    private Part atom(Clause clause, int kind) {
        Part part = new Part();
        part.kind = kind;
        part.name = next();
        refuseUnless(next().isName(), next());
        if (!names.contains(next().text)) {
            refuseUnless(names.size() < 16, next());
            names.add(next().text);
        }
        at++;
        take("(");
        part.terms.add(argument(clause, kind));
        while (next().is(",")) {
            at++;
            refuseUnless(part.terms.size() < 4, next());
            part.terms.add(argument(clause, kind));
        }
        take(")");
        return part;
    }

    private String argument(Clause clause, int kind) {
        Token first = next();
        if (first.is("_")) {
            refuseUnless(kind == 1 || kind == 0 && clause.total == 0, first);
            at++;
            return "_";
        }
        if (kind == 9 && TOTALS.contains(first.text) && !first.is("")) {
            refuseUnless(clause.total == 0, first);
            clause.total = TOTALS.indexOf(first.text);
            clause.totalPlace = first.place;
            at++;
            take("(");
            refuseUnless(next().isVariable(), next());
            String variable = term(clause);
            take(")");
            return variable;
        }
        return term(clause);
    }

    private String term(Clause clause) {
        Token token = tokens.get(at);
        if (token.is("-")) {
            at++;
            token = next();
            refuseUnless(token.isNumber(), token);
            at++;
            return String.valueOf(-Integer.parseInt(token.text));
        }
        refuseUnless(token.isName() || token.isNumber() || token.isVariable(), token);
        if (token.isVariable() && !clause.variables.containsKey(token.text)) {
            refuseUnless(clause.variables.size() < 8, token);
            clause.variables.put(token.text, token.place);
        }
        at++;
        return token.isNumber() ? String.valueOf(Integer.parseInt(token.text)) : token.text;
    }

    private void laterFaults() {
        TreeMap<Integer, Integer> found = new TreeMap<>();
        for (Clause clause : clauses) {
            List<Part> asking = new ArrayList<>(clause.body);
            asking.add(0, clause.head);
            for (Part part : asking) {
                if (part.name != null) {
                    Integer size = sizes.putIfAbsent(part.name.text, part.terms.size());
                    if (size != null && size != part.terms.size()) {
                        found.put(part.name.place, 2);
                    }
                }
            }
            Set<String> bound = bound(clause);
            clause.variables.forEach((name, place) -> {
                if (!bound.contains(name)) {
                    found.put(place, 3);
                }
            });
        }
        if (found.isEmpty()) {
            for (String name : names) {
                hanging.put(name, new HashSet<>());
                hang(name, hanging.get(name));
            }
            findKnots(found);
        }
        if (found.isEmpty()) {
            layStrata();
            rules.forEach(Oracle::plan);
        } else {
            faultPlace = found.firstKey();
            faultKind = found.get(faultPlace);
        }
    }

    private static Set<String> bound(Clause clause) {
        Set<String> bound = new HashSet<>();
        for (Part part : clause.body) {
            if (part.kind == 0) {
                bound.addAll(part.variables());
            }
        }
        for (int round = 0; round < 100; round++) {
            for (Part part : clause.body) {
                List<String> terms = part.terms;
                if (part.kind == 3 && bound.containsAll(Part.variables(terms.subList(1, 3)))) {
                    bound.add(terms.get(0));
                }
                if (part.sign.equals("=")) {
                    for (int side = 0; side < 2; side++) {
                        String other = terms.get(1 - side);
                        if (Part.isVariable(terms.get(side))
                                && (!Part.isVariable(other) || bound.contains(other))) {
                            bound.add(terms.get(side));
                        }
                    }
                }
            }
        }
        return bound;
    }

    private void hang(String name, Set<String> found) {
        for (Clause rule : rules) {
            if (rule.head.name.text.equals(name)) {
                for (Part part : rule.body) {
                    if (part.asks() && found.add(part.name.text)) {
                        hang(part.name.text, found);
                    }
                }
            }
        }
    }

    private void findKnots(TreeMap<Integer, Integer> found) {
        for (Clause rule : rules) {
            for (Part part : rule.body) {
                if (part.asks() && (part.kind == 1 || rule.total > 0) && isBack(rule, part)) {
                    found.put(rule.total > 0 ? rule.totalPlace : part.place, 4);
                }
            }
        }
    }

    boolean isBack(Clause rule, Part part) {
        String head = rule.head.name.text;
        return part.name.text.equals(head) || hanging.get(part.name.text).contains(head);
    }

    private void layStrata() {
        for (String name : names) {
            strata.put(name, 0);
        }
        boolean changes = true;
        while (changes) {
            changes = false;
            for (Clause rule : rules) {
                for (Part part : rule.body) {
                    if (part.asks()) {
                        int least = strata.get(part.name.text);
                        if (part.kind == 1 || rule.total > 0) {
                            least++;
                        }
                        if (strata.get(rule.head.name.text) < least) {
                            strata.put(rule.head.name.text, least);
                            changes = true;
                        }
                    }
                }
            }
        }
    }

    private static void plan(Clause rule) {
        List<Part> left = new ArrayList<>(rule.body);
        Set<String> valued = new HashSet<>();
        while (!left.isEmpty()) {
            Part next = null;
            for (Part part : left) {
                if (next == null && part.kind > 0 && canBeAsked(part, valued)) {
                    next = part;
                }
            }
            for (int most = 4; most >= 0 && next == null; most--) {
                for (Part part : left) {
                    if (next == null && part.kind == 0 && part.known(valued).size() == most) {
                        next = part;
                    }
                }
            }
            int known = 0;
            if (next.asks()) {
                for (int i : next.known(valued)) {
                    known += 1 << i;
                }
            }
            valued.addAll(next.variables());
            left.remove(next);
            rule.plan.add(new int[] {rule.body.indexOf(next), known, valued.size()});
        }
    }

    private static boolean canBeAsked(Part part, Set<String> valued) {
        if (part.sign.equals("=")) {
            return !part.known(valued).isEmpty();
        }
        List<String> needed = part.kind == 3 ? part.terms.subList(1, 3) : part.terms;
        return valued.containsAll(Part.variables(needed));
    }

    int factsOf(String name) {
        Set<List<String>> different = new HashSet<>();
        for (Clause clause : clauses) {
            if (!clause.isRule && clause.head.name.text.equals(name)) {
                different.add(clause.head.terms);
            }
        }
        return different.size();
    }

    int rulesOf(String name) {
        int count = 0;
        for (Clause rule : rules) {
            count += rule.head.name.text.equals(name) ? 1 : 0;
        }
        return count;
    }
}
