/** All promises, over programs drawn by a fixed row of numbers and answered by Oracle too. */
public final class RandomProgramsTest {
    private static final Check CHECK = new Check("RandomProgramsTest");
    private static final int PROGRAMS = 12000;
    private static final String[] NAMES = {"a", "b", "c", "d", "e1", "ffffff", "g", "h", "i", "j",
        "k", "l", "m", "n", "o", "p", "q", "r"};
    private static final String[] VARIABLES = {"X", "Y", "Z", "Abc9", "V", "W", "U", "T", "S"};
    private static final String[] RELATIONS = {"=", "=", "=", "!=", "<", "<=", ">", ">="};
    private static final String[] STRAY = {".", ",", "(", ")", "_", "!", ":-", "is", "count", "sum",
        "=", "-", "1", "a", "X", " ", "?", "$", ":", "abcdefg", "Abcde", "1234567890", "<", "!=", "*"};

    private static long state = 20261115;
    private static int names;
    private static int variables;
    private static boolean total;
    private static final int[] KINDS = new int[5];
    private static PlanDesk keeper = new PlanDesk();
    private static int keeperCalls = 0;
    private static Oracle kept = new Oracle("");

    public static void main(String[] args) {
        for (int i = 0; i < PROGRAMS; i++) {
            String text = drawProgram();
            text = draw(5) == 0 ? spoil(text) : text;
            Oracle oracle = new Oracle(text);
            KINDS[oracle.faultKind]++;
            compare(text, oracle);
            compareKept(text, oracle);
        }
        for (int kind = 0; kind < KINDS.length; kind++) {
            CHECK.due("enough programs of fault kind " + kind, true, KINDS[kind] >= PROGRAMS / 100);
            System.out.println("programs of fault kind " + kind + ": " + KINDS[kind]);
        }
        CHECK.end();
    }

    private static int draw(int bound) {
        state = state * 6364136223846793005L + 1442695040888963407L;
        return (int) ((state >>> 33) % bound);
    }

    private static String of(String[] texts, int bound) {
        return texts[draw(Math.min(bound, texts.length))];
    }

    private static String drawProgram() {
        names = 1 + draw(draw(12) == 0 ? 18 : 6);
        variables = 1 + draw(draw(6) == 0 ? 9 : 4);
        int clauses = draw(20) == 0 ? 45 : 1 + draw(8);
        StringBuilder text = new StringBuilder();
        for (int i = 0; i < clauses; i++) {
            String clause = clauses < 45 ? drawGoodClause(text)
                    : draw(4) == 0 ? "b(" + draw(9) + ")." : "a(1):-1=1.";
            if (text.length() + clause.length() <= 600) {
                text.append(clause);
            }
        }
        return text.toString();
    }

    /** Most clauses drawn at random have a FAULT; a few tries give more PROGRAMS without one. */
    private static String drawGoodClause(StringBuilder ahead) {
        int tries = draw(12) == 0 ? 0 : 10;
        String before = draw(3) == 0 ? "" : ahead.toString();
        String clause = drawClause();
        for (int i = 0; i < tries && new Oracle(before + clause).faultKind != 0; i++) {
            clause = drawClause();
        }
        return clause;
    }

    private static String drawClause() {
        total = false;
        boolean fact = draw(3) == 0;
        String name = of(NAMES, names);
        StringBuilder text = new StringBuilder(name).append("(");
        int size = size(name);
        for (int i = 0; i < size; i++) {
            text.append(i == 0 ? "" : ",");
            if (!fact && draw(8) == 0 && (!total || draw(9) == 0)) {
                total = true;
                text.append(of(new String[] {"count", "sum", "least", "most"}, 4))
                        .append("(").append(of(VARIABLES, variables)).append(")");
            } else {
                text.append(fact && draw(60) != 0 ? value() : term());
            }
        }
        text.append(")");
        if (!fact) {
            int literals = 1 + draw(draw(4) == 0 ? 7 : 4);
            for (int i = 0; i < literals; i++) {
                text.append(i == 0 ? ":-" : ",").append(blank()).append(literal());
            }
        }
        return text.append(blank()).append(".").toString();
    }

    /** The same for most times that a NAME is used. */
    private static int size(String name) {
        return draw(25) == 0 ? 1 + draw(5) : 1 + name.charAt(0) % 4;
    }

    private static String blank() {
        return draw(6) == 0 ? " " : "";
    }

    private static String value() {
        return draw(2) == 0 ? of(NAMES, 4) : (draw(3) == 0 ? "-" : "") + draw(3);
    }

    private static String term() {
        return draw(4) == 0 ? value() : of(VARIABLES, variables);
    }

    private static String literal() {
        int sort = draw(10);
        if (sort < 2) {
            return term() + of(RELATIONS, 8) + term();
        }
        if (sort < 4) {
            String sign = String.valueOf("+-*/%".charAt(draw(5)));
            return of(VARIABLES, variables) + " is " + term() + sign + term();
        }
        String name = of(NAMES, names);
        StringBuilder text = new StringBuilder(sort < 5 ? "!" : "").append(name).append("(");
        int size = size(name);
        for (int i = 0; i < size; i++) {
            boolean open = draw(6) == 0 && (!total || sort < 5 || draw(9) == 0);
            text.append(i == 0 ? "" : ",").append(open ? "_" : term());
        }
        return text.append(")").toString();
    }

    private static String spoil(String text) {
        int place = draw(text.length() + 1);
        int end = Math.min(text.length(), place + draw(3));
        String spoilt = text.substring(0, place) + (draw(3) == 0 ? "" : of(STRAY, STRAY.length))
                + text.substring(draw(6) == 0 ? text.length() : end);
        return spoilt.substring(0, Math.min(600, spoilt.length()));
    }

    private static PlanDesk desk(String text, Oracle oracle) {
        PlanDesk desk = new PlanDesk();
        CHECK.due("type " + text, true, Check.type(desk, text));
        int due = oracle.faultKind > 0 ? Check.THREW : oracle.rules.size();
        CHECK.due("program of " + text, due, Check.program(desk));
        CHECK.due("fault(0) of " + text, oracle.faultKind, desk.fault(0));
        CHECK.due("fault(1) of " + text, oracle.faultPlace, desk.fault(1));
        return desk;
    }

    // An object is good for 512 calls, so each of these asks one of its own.
    private static void compare(String text, Oracle oracle) {
        PlanDesk desk = desk(text, oracle);
        if (oracle.faultKind == 0) {
            comparePredicates(desk, text, oracle);
            compareHanging(desk(text, oracle), text, oracle);
            desk = desk(text, oracle);
            for (int r = 0; r < oracle.rules.size(); r++) {
                desk = r % 10 == 0 ? desk(text, oracle) : desk;
                compareRule(desk, text, oracle, r);
            }
            CHECK.due("no rule more: " + text, Check.THREW, Check.rule(desk, oracle.rules.size(), 0));
        }
    }

    /** One object reads many programs: one with a FAULT leaves what there was. */
    private static void compareKept(String text, Oracle oracle) {
        if (keeperCalls > 300) {
            keeper = new PlanDesk();
            kept = new Oracle("");
            keeperCalls = 0;
        }
        Check.type(keeper, text);
        Check.program(keeper);
        kept = oracle.faultKind == 0 ? oracle : kept;
        keeperCalls += 15 + text.length() / 8;
        CHECK.due("fault(1) again of " + text, oracle.faultPlace, keeper.fault(1));
        CHECK.due("kept predicates behind " + text, kept.names.size(), keeper.predicates());
        if (!kept.rules.isEmpty() && keeperCalls < 450) {
            compareRule(keeper, "what was kept behind " + text, kept, kept.rules.size() - 1);
            keeperCalls += 35;
        }
        int calls = 1 + 11 * kept.names.size();
        if (keeperCalls + calls < 500) {
            comparePredicates(keeper, "what was kept behind " + text, kept);
            keeperCalls += calls;
        }
    }

    private static void comparePredicates(PlanDesk desk, String text, Oracle oracle) {
        CHECK.due("predicates() of " + text, oracle.names.size(), desk.predicates());
        for (int p = 0; p < oracle.names.size(); p++) {
            String name = oracle.names.get(p);
            int[] due = {oracle.sizes.get(name), oracle.strata.get(name), oracle.rulesOf(name),
                oracle.factsOf(name), name.length()};
            for (int what = 0; what < due.length; what++) {
                CHECK.due("predicate(" + p + ", " + what + ") of " + text, due[what],
                        desk.predicate(p, what));
            }
            for (int i = 0; i < name.length(); i++) {
                CHECK.due("letter of " + text, name.charAt(i), desk.predicate(p, 100 + i));
            }
        }
    }

    private static void compareHanging(PlanDesk desk, String text, Oracle oracle) {
        for (int p = 0; p < oracle.names.size(); p++) {
            for (int q = 0; q < oracle.names.size(); q++) {
                boolean due = oracle.hanging.get(oracle.names.get(p)).contains(oracle.names.get(q));
                CHECK.due("hangs(" + p + ", " + q + ") of " + text, due, desk.hangs(p, q));
            }
        }
    }

    private static void compareRule(PlanDesk desk, String text, Oracle oracle, int r) {
        Oracle.Clause rule = oracle.rules.get(r);
        int circles = 0;
        for (Oracle.Part part : rule.body) {
            circles += part.kind == 0 && oracle.isBack(rule, part) ? 1 : 0;
        }
        int[] due = {oracle.names.indexOf(rule.head.name.text), rule.body.size(),
            rule.variables.size(), rule.total, circles};
        for (int what = 0; what < due.length; what++) {
            CHECK.due("rule(" + r + ", " + what + ") of " + text, due[what], Check.rule(desk, r, what));
        }
        for (int i = 0; i < rule.plan.size(); i++) {
            int[] step = rule.plan.get(i);
            Oracle.Part part = rule.body.get(step[0]);
            int asked = part.asks() ? oracle.names.indexOf(part.name.text) : PlanDesk.NONE;
            int[] row = {step[0], part.kind, asked, step[1], step[2]};
            for (int what = 0; what < row.length; what++) {
                CHECK.due("literal(" + r + ", " + i + ", " + what + ") of " + text, row[what],
                        Check.literal(desk, r, i, what));
            }
        }
    }
}
