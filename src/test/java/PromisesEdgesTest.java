/**
 * The boundaries that the promises themselves name: too small, too large, empty, full, refused.
 * One method for each sentence, which stands above it.
 */
public final class PromisesEdgesTest {
    private static final Check CHECK = new Check("PromisesEdgesTest");
    private static final int NONE = PlanDesk.NONE;
    private static final int LEAST = Integer.MIN_VALUE;
    private static final int MOST = Integer.MAX_VALUE;
    private static final String GOOD = "p(1).q(X,Y):-p(X),Y is X+1,!r(Y).q(1,1).";

    public static void main(String[] args) {
        newObject();
        typeOtherN();
        typeOtherBytes();
        typeMoreThan600();
        typeRefusedChangesNothing();
        typeHighestFirst();
        programOfNothing();
        programEmptiesTheTape();
        programWithAFaultStays();
        programReplacesAll();
        programAnswersItsRules();
        faultOfTheLatest();
        faultWithoutOne();
        faultOtherWhat();
        predicatesAtTheirLimits();
        predicateNoneSuch();
        predicateOtherWhat();
        predicateLetters();
        predicateDifferentFacts();
        predicateRulesAndFacts();
        hangsNoneSuch();
        ruleNoneSuch();
        ruleAtItsLimits();
        literalNoneSuch();
        literalAtItsLimits();
        refusedQuestionsChangeNothing();
        lastCalls();
        CHECK.end();
    }

    /** A new object: No PROGRAM, no predicates. */
    private static void newObject() {
        PlanDesk desk = new PlanDesk();
        CHECK.due("new predicates()", 0, desk.predicates());
        for (int p = -1; p <= 16; p++) {
            for (int what : new int[] {0, 1, 2, 3, 4, 100}) {
                CHECK.due("new predicate(" + p + ", " + what + ")", NONE, desk.predicate(p, what));
            }
            CHECK.due("new hangs(" + p + ", 0)", false, desk.hangs(p, 0));
            CHECK.due("new hangs(0, " + p + ")", false, desk.hangs(0, p));
            CHECK.due("new rule(" + p + ", 0)", Check.THREW, Check.rule(desk, p, 0));
            CHECK.due("new literal(" + p + ", 0, 0)", Check.THREW, Check.literal(desk, p, 0, 0));
        }
        CHECK.due("new fault(0)", 0, desk.fault(0));
        CHECK.due("new fault(1)", 0, desk.fault(1));
        CHECK.due("the tape is empty", 0, Check.program(new PlanDesk()));
        CHECK.due("600 fit on it", true, Check.type(desk, Check.times(600, " ")));
        CHECK.due("NONE", -1, NONE);
    }

    /** The n (1 .. 8) lowest bytes: false for another n. */
    private static void typeOtherN() {
        long blanks = Check.word("        ");
        for (int n : new int[] {0, -1, -8, 9, 10, 16, 64, 255, 256, 600, LEAST, LEAST + 1, MOST - 1, MOST}) {
            CHECK.due("type(blanks, " + n + ")", false, new PlanDesk().type(blanks, n));
        }
        for (int n = 1; n <= 8; n++) {
            PlanDesk desk = new PlanDesk();
            CHECK.due("type(blanks, " + n + ")", true, desk.type(blanks, n));
            desk.type('$', 1);
            Check.program(desk);
            CHECK.due(n + " blanks are ahead", n, desk.fault(1));
        }
    }

    /** A byte that is not 32 .. 126: false, wherever it stands among the n. */
    private static void typeOtherBytes() {
        int[] bytes = {0, 1, 9, 10, 13, 31, 32, 33, 125, 126, 127, 128, 160, 254, 255};
        for (int c : bytes) {
            boolean good = c >= 32 && c <= 126;
            for (int n = 1; n <= 8; n++) {
                for (int at = 0; at < 8; at++) {
                    long hole = 255L << (8 * at);
                    long word = Check.word("        ") & ~hole | (long) c << (8 * at);
                    CHECK.due("type of byte " + c + " at " + at + " of " + n, good || at >= n,
                            new PlanDesk().type(word, n));
                }
            }
        }
        CHECK.due("type(0, 8)", false, new PlanDesk().type(0, 8));
        CHECK.due("type(-1, 8)", false, new PlanDesk().type(-1, 8));
        CHECK.due("type(-1, 1)", false, new PlanDesk().type(-1, 1));
        CHECK.due("type least", false, new PlanDesk().type(Long.MIN_VALUE, 8));
        CHECK.due("type most", false, new PlanDesk().type(Long.MAX_VALUE, 8));
        CHECK.due("a negative word's low bytes", true, new PlanDesk().type(-1L << 32 | ' ', 1));
    }

    /** False if it would have more than 600. */
    private static void typeMoreThan600() {
        long blanks = Check.word("        ");
        for (int length = 590; length <= 600; length++) {
            for (int n = 1; n <= 8; n++) {
                PlanDesk desk = new PlanDesk();
                Check.type(desk, Check.times(length, " "));
                CHECK.due(n + " behind " + length, length + n <= 600, desk.type(blanks, n));
            }
        }
        PlanDesk desk = new PlanDesk();
        for (int i = 0; i < 75; i++) {
            CHECK.due("word " + i, true, desk.type(blanks, 8));
        }
        CHECK.due("word 75", false, desk.type(blanks, 8));
        CHECK.due("n most on a full tape", false, desk.type(blanks, MOST));
        CHECK.due("n least on a full tape", false, desk.type(blanks, LEAST));
    }

    /** False, changing nothing. */
    private static void typeRefusedChangesNothing() {
        PlanDesk desk = new PlanDesk();
        desk.type(Check.word("p(1"), 3);
        CHECK.due("n 0", false, desk.type(Check.word(","), 0));
        CHECK.due("n 9", false, desk.type(Check.word(",2"), 9));
        CHECK.due("the lowest byte", false, desk.type(Check.word(",2\n"), 3));
        CHECK.due("the highest byte", false, desk.type(Check.word("\n,2"), 3));
        CHECK.due("a byte between", false, desk.type(Check.word(",\n2"), 3));
        desk.type(Check.word(")."), 2);
        CHECK.due("program()", 0, Check.program(desk));
        CHECK.due("ARGUMENTS", 1, desk.predicate(0, 0));

        PlanDesk full = new PlanDesk();
        Check.type(full, "p(1)" + Check.times(594, " "));
        CHECK.due("three behind 598", false, full.type(Check.word(".$$"), 3));
        CHECK.due("two behind 598", true, full.type(Check.word(". "), 2));
        CHECK.due("one behind 600", false, full.type('$', 1));
        CHECK.due("program() of a full tape", 0, Check.program(full));
        CHECK.due("predicates()", 1, full.predicates());
        CHECK.due("fault(0)", 0, full.fault(0));
    }

    /** The highest first. */
    private static void typeHighestFirst() {
        PlanDesk desk = new PlanDesk();
        CHECK.due("type", true, desk.type(0x61623128312c3229L, 8)); // ab1(1,2)
        CHECK.due("type the lowest of a full word", true, desk.type(0x7f00ff1f2424242eL, 1)); // .
        CHECK.due("program()", 0, Check.program(desk));
        CHECK.due("ARGUMENTS", 2, desk.predicate(0, 0));
        CHECK.due("letter 0", 'a', desk.predicate(0, 100));
        CHECK.due("letter 1", 'b', desk.predicate(0, 101));
        CHECK.due("letter 2", '1', desk.predicate(0, 102));
    }

    /** The tape is the PROGRAM: an empty one too. */
    private static void programOfNothing() {
        PlanDesk desk = Check.desk(GOOD);
        CHECK.due("program() of an empty tape", 0, Check.program(desk));
        CHECK.due("predicates()", 0, desk.predicates());
        CHECK.due("predicate(0, 0)", NONE, desk.predicate(0, 0));
        CHECK.due("hangs(1, 0)", false, desk.hangs(1, 0));
        CHECK.due("rule(0, 0)", Check.THREW, Check.rule(desk, 0, 0));
        CHECK.due("literal(0, 0, 0)", Check.THREW, Check.literal(desk, 0, 0, 0));
        CHECK.due("program() again", 0, Check.program(desk));
    }

    /** The tape (which is empty then in any case). */
    private static void programEmptiesTheTape() {
        String[] texts = {GOOD, "p(X).", "p(1).p(1,2).", "p(X):-q(1).", "p(1):-!p(1).", "$", "", "  "};
        for (String text : texts) {
            PlanDesk desk = new PlanDesk();
            Check.type(desk, text);
            Check.program(desk);
            CHECK.due("600 fit behind " + text, true, Check.type(desk, Check.times(599, " ") + "$"));
            CHECK.due("601 do not behind " + text, false, desk.type(' ', 1));
            CHECK.due("program of $ behind " + text, Check.THREW, Check.program(desk));
            CHECK.due("fault(1) behind " + text, 599, desk.fault(1));
            CHECK.due("program of nothing behind " + text, 0, Check.program(desk));
        }
    }

    /** IllegalArgumentException: it has a FAULT (all but fault() stays as it is). */
    private static void programWithAFaultStays() {
        String[] faulty = {"$", "z(", "p(X).", "z(1).p(1).p(1,2).", "z(X):-p(Y).", "z(1):-!z(1).",
            "z(count(X)):-z(X).", Check.times(31, "z(1):-1=1."), Check.SIXTEEN + "q(1)."};
        PlanDesk desk = Check.desk(GOOD);
        for (String text : faulty) {
            Check.type(desk, text);
            CHECK.due("program of " + text, Check.THREW, Check.program(desk));
            CHECK.due("a fault of " + text, true, desk.fault(0) > 0);
            same(desk, "behind " + text);
        }
        PlanDesk empty = new PlanDesk();
        for (String text : faulty) {
            Check.type(empty, text);
            CHECK.due("program of " + text, Check.THREW, Check.program(empty));
            CHECK.due("no predicates behind " + text, 0, empty.predicates());
            CHECK.due("no RULE behind " + text, Check.THREW, Check.rule(empty, 0, 0));
        }
    }

    /** What GOOD answers: p 0, q 1, r 2. */
    private static void same(PlanDesk desk, String when) {
        CHECK.due("predicates() " + when, 3, desk.predicates());
        row(when, new int[] {1, 0, 0, 1, 1}, desk, 0);
        row(when, new int[] {2, 1, 1, 1, 1}, desk, 1);
        row(when, new int[] {1, 0, 0, 0, 1}, desk, 2);
        CHECK.due("hangs(1, 0) " + when, true, desk.hangs(1, 0));
        CHECK.due("hangs(1, 2) " + when, true, desk.hangs(1, 2));
        CHECK.due("hangs(0, 1) " + when, false, desk.hangs(0, 1));
        int[] rule = {1, 3, 2, 0, 0};
        int[] last = {2, 1, 2, 1, 2};
        for (int what = 0; what < 5; what++) {
            CHECK.due("rule(0, " + what + ") " + when, rule[what], Check.rule(desk, 0, what));
            CHECK.due("literal(0, 2, " + what + ") " + when, last[what],
                    Check.literal(desk, 0, 2, what));
        }
        CHECK.due("rule(1, 0) " + when, Check.THREW, Check.rule(desk, 1, 0));
    }

    private static void row(String when, int[] due, PlanDesk desk, int p) {
        for (int what = 0; what < due.length; what++) {
            CHECK.due("predicate(" + p + ", " + what + ") " + when, due[what], desk.predicate(p, what));
        }
    }

    /** The tape is the PROGRAM: what was read ahead of it, good or faulty, leaves no trace. */
    private static void programReplacesAll() {
        String[] texts = {GOOD, "", "q(1,2,3,4).q(1,2,3,4).p(1):-q(1,1,1,_),!r(a,b).r(a,b).",
            "p(1).p(2).q(1,1).p(1).", "r(count(X)):-q(X),p(X,1).q(X):-p(X,X),q(X).p(1,1).s(1):-!r(1).",
            "p(1).p(1,2).", "p(X,Y):-q(X).", "p(1):-!p(1).r(1).", "p(a).r(1,1,1,1).$"};
        for (String first : texts) {
            for (String second : texts) {
                for (String third : texts) {
                    oneAfterTheOther(first, second, third);
                }
            }
        }
    }

    private static void oneAfterTheOther(String... texts) {
        PlanDesk desk = new PlanDesk();
        PlanDesk due = new PlanDesk();
        String all = String.join(" then ", texts);
        for (String text : texts) {
            PlanDesk fresh = new PlanDesk();
            Check.type(fresh, text);
            Check.type(desk, text);
            int rules = Check.program(fresh);
            CHECK.due("program of " + text + " in " + all, rules, Check.program(desk));
            CHECK.due("fault(0) of " + text + " in " + all, fresh.fault(0), desk.fault(0));
            CHECK.due("fault(1) of " + text + " in " + all, fresh.fault(1), desk.fault(1));
            due = rules == Check.THREW ? due : fresh;
        }
        compare(desk, due, all);
    }

    private static void compare(PlanDesk got, PlanDesk due, String when) {
        CHECK.due("predicates(): " + when, due.predicates(), got.predicates());
        for (int p = 0; p < 5; p++) {
            for (int what : new int[] {0, 1, 2, 3, 4, 100, 101}) {
                CHECK.due("predicate(" + p + ", " + what + "): " + when, due.predicate(p, what),
                        got.predicate(p, what));
            }
            for (int q = 0; q < 5; q++) {
                CHECK.due("hangs(" + p + ", " + q + "): " + when, due.hangs(p, q), got.hangs(p, q));
            }
        }
        for (int r = 0; r < 4; r++) {
            for (int what = 0; what < 5; what++) {
                CHECK.due("rule(" + r + ", " + what + "): " + when, Check.rule(due, r, what),
                        Check.rule(got, r, what));
                for (int i = 0; i < 4; i++) {
                    CHECK.due("literal(" + r + ", " + i + ", " + what + "): " + when,
                            Check.literal(due, r, i, what), Check.literal(got, r, i, what));
                }
            }
        }
    }

    /** How many RULES: 0 to 30. */
    private static void programAnswersItsRules() {
        for (int rules = 0; rules <= 30; rules++) {
            CHECK.reads("f(1)." + Check.times(rules, "a(1):-1=1.") + "f(2).", rules);
        }
    }

    /** The FAULT of the latest program(), what 0: its kind, 1: its place. */
    private static void faultOfTheLatest() {
        PlanDesk desk = new PlanDesk();
        fault(desk, "p(X).", 1, 2);
        fault(desk, "p(1):-!p(1).", 4, 6);
        fault(desk, "$", 1, 0);
        fault(desk, "p(X):-q(Y).", 3, 2);
        fault(desk, "p(1).p(1,2).", 2, 5);
        fault(desk, "p(1).", 0, 0);
        fault(desk, Check.times(600, " ").substring(1) + "p", 1, 600);
        fault(desk, "", 0, 0);
        fault(desk, "p", 1, 1);
        desk.type('$', 1);
        desk.type('$', 9);
        CHECK.due("fault(0) behind type", 1, desk.fault(0));
        CHECK.due("fault(1) behind type", 1, desk.fault(1));
    }

    private static void fault(PlanDesk desk, String text, int kind, int place) {
        Check.type(desk, text);
        CHECK.due("program of " + text, kind == 0 ? 0 : Check.THREW, Check.program(desk));
        CHECK.due("fault(0) of " + text, kind, desk.fault(0));
        CHECK.due("fault(1) of " + text, place, desk.fault(1));
        CHECK.due("fault(0) again of " + text, kind, desk.fault(0));
    }

    /** Its kind (0 none), its place (0 without one). */
    private static void faultWithoutOne() {
        PlanDesk desk = new PlanDesk();
        CHECK.due("fault(0) ahead of program()", 0, desk.fault(0));
        CHECK.due("fault(1) ahead of program()", 0, desk.fault(1));
        Check.type(desk, "$");
        CHECK.due("fault(0) of a tape not yet read", 0, desk.fault(0));
        PlanDesk good = Check.desk(GOOD);
        CHECK.due("fault(0) of a good one", 0, good.fault(0));
        CHECK.due("fault(1) of a good one", 0, good.fault(1));
    }

    /** NONE for another what. */
    private static void faultOtherWhat() {
        PlanDesk faulty = new PlanDesk();
        Check.type(faulty, "p(X).");
        Check.program(faulty);
        PlanDesk[] desks = {new PlanDesk(), Check.desk(GOOD), faulty};
        for (PlanDesk desk : desks) {
            for (int what : new int[] {-2, -1, 2, 3, 4, 100, 256, 257, LEAST, LEAST + 1, MOST - 1, MOST}) {
                CHECK.due("fault(" + what + ")", NONE, desk.fault(what));
            }
        }
    }

    /** How many predicates there are: 0 to 16. */
    private static void predicatesAtTheirLimits() {
        StringBuilder text = new StringBuilder();
        for (int count = 0; count <= 16; count++) {
            PlanDesk desk = Check.desk(text.toString());
            CHECK.due("predicates() of " + text, count, desk.predicates());
            CHECK.due("the last", count == 0 ? NONE : 'a' + count - 1, desk.predicate(count - 1, 100));
            CHECK.due("behind it", NONE, desk.predicate(count, 100));
            text.append((char) ('a' + count)).append("(1).");
        }
        CHECK.due("p and SYMBOLS", 1, Check.desk("p(a,b,c,d).p(e,f,g,h).").predicates());
        CHECK.due("asked for alone", 4, Check.desk("p(1):-q(1),!r(1),s(a),t=u.").predicates());
    }

    /** NONE if there is none such. */
    private static void predicateNoneSuch() {
        PlanDesk desk = Check.desk(GOOD);
        for (int p : new int[] {-1, -2, 3, 4, 15, 16, 17, LEAST, LEAST + 1, MOST - 1, MOST}) {
            for (int what : new int[] {-1, 0, 1, 2, 3, 4, 5, 99, 100, 101, LEAST, MOST}) {
                CHECK.due("predicate(" + p + ", " + what + ")", NONE, desk.predicate(p, what));
            }
        }
    }

    /** .. or for another what. */
    private static void predicateOtherWhat() {
        PlanDesk desk = Check.desk("abcdef(1).p(1).");
        int[] whats = {-1, -2, -100, 5, 6, 10, 50, 94, 95, 98, 99, 106, 107, 200, 356, LEAST, LEAST + 1,
            LEAST + 99, LEAST + 100, LEAST + 101, MOST - 1, MOST};
        for (int what : whats) {
            CHECK.due("predicate(0, " + what + ")", NONE, desk.predicate(0, what));
            CHECK.due("predicate(1, " + what + ")", NONE, desk.predicate(1, what));
        }
    }

    /** 4: letters of its NAME, 100 + i: letter i of it. */
    private static void predicateLetters() {
        String[] names = {"a", "z", "b0", "z99", "isis", "count1", "zzzzzz", "a00000"};
        for (String name : names) {
            PlanDesk desk = Check.desk("q(1).p(" + name + "):-" + name + "(1).");
            CHECK.due("letters of " + name, name.length(), desk.predicate(2, 4));
            for (int i = 0; i < name.length(); i++) {
                CHECK.due("letter " + i + " of " + name, name.charAt(i), desk.predicate(2, 100 + i));
            }
            CHECK.due("letter behind " + name, NONE, desk.predicate(2, 100 + name.length()));
            CHECK.due("letter ahead of " + name, NONE, desk.predicate(2, 99));
        }
    }

    /** 3: its FACTS (different ones). */
    private static void predicateDifferentFacts() {
        String values = "0123456789abcdefghijklmnopqrstuvwxyz";
        StringBuilder text = new StringBuilder();
        for (int i = 0; i < 120; i++) {
            text.append((char) ('p' + i / 36)).append("(").append(values.charAt(i % 36)).append(").");
        }
        PlanDesk full = Check.desk(text.toString());
        int[] due = {36, 36, 36, 12};
        for (int p = 0; p < due.length; p++) {
            CHECK.due("FACTS of " + p + " on a full tape", due[p], full.predicate(p, 3));
        }
        facts("p(1):-1=1.", 0);
        facts("p(1).p(1).p(1).", 1);
        facts("p(1).p(2).p(1).p(2).", 2);
        facts("p(1,2).p(2,1).p(1,1).p(2,2).p(1,2).", 4);
        facts("p(1,1,1,1).p(1,1,1,2).p(1,1,2,1).p(1,2,1,1).p(2,1,1,1).p(1,1,1,1).", 5);
        facts("p(1).p(01).p(000000001).", 1);
        facts("p(9).p(10).p(11).p(19).p(90).p(91).p(99).p(100).p(101).p(109).p(110).", 11);
        facts("p(0).p(-0).p(- 0).", 1);
        facts("p(1).p(-1).p(- 1).", 2);
        facts("p(a).p(a0).p(a00).p(aa).p(b).", 5);
        facts("p(1).q(1).q(2).p(a):-q(2).", 1);
        facts("p(999999999).p(-999999999).p(999999998).", 3);
    }

    private static void facts(String text, int due) {
        CHECK.due("FACTS of p: " + text, due, Check.desk(text).predicate(0, 3));
    }

    /** 0: its ARGUMENTS, 2: its RULES, 3: its FACTS. */
    private static void predicateRulesAndFacts() {
        PlanDesk desk = Check.desk("a(1):-b(1,2),!c(1,_,3).d(1,2,3,4).a(2):-1=1.a(1).a(X):-a(X).d(1,2,3,5).");
        row("a", new int[] {1, 1, 3, 1, 1}, desk, 0);
        row("b", new int[] {2, 0, 0, 0, 1}, desk, 1);
        row("c", new int[] {3, 0, 0, 0, 1}, desk, 2);
        row("d", new int[] {4, 0, 0, 2, 1}, desk, 3);
        PlanDesk full = Check.desk(Check.times(29, "a(1):-1=1.") + "b(1,X):-X=1.a(1).");
        row("a of 29", new int[] {1, 0, 29, 1, 1}, full, 0);
        row("b of 1", new int[] {2, 0, 1, 0, 1}, full, 1);
    }

    /** False if there are none such. */
    private static void hangsNoneSuch() {
        PlanDesk desk = Check.desk("a(1):-a(1),b(1).b(1):-a(1).");
        CHECK.due("hangs(0, 0)", true, desk.hangs(0, 0));
        CHECK.due("hangs(1, 1)", true, desk.hangs(1, 1));
        for (int other : new int[] {-1, -2, -31, -32, 2, 15, 16, 31, 32, 33, 64, LEAST, LEAST + 1, MOST}) {
            for (int p = 0; p < 2; p++) {
                CHECK.due("hangs(" + p + ", " + other + ")", false, desk.hangs(p, other));
                CHECK.due("hangs(" + other + ", " + p + ")", false, desk.hangs(other, p));
            }
            CHECK.due("hangs(" + other + ", " + other + ")", false, desk.hangs(other, other));
        }
    }

    /** NoSuchElementException: there is none such. */
    private static void ruleNoneSuch() {
        PlanDesk desk = Check.desk("a(1).a(X):-b(X).b(X):-a(X).a(2).");
        for (int r : new int[] {-1, -2, 2, 3, 4, 29, 30, 31, LEAST, LEAST + 1, MOST - 1, MOST}) {
            for (int what = -1; what <= 5; what++) {
                CHECK.due("rule(" + r + ", " + what + ")", Check.THREW, Check.rule(desk, r, what));
            }
        }
        for (int what : new int[] {-1, -2, 5, 6, 100, LEAST, LEAST + 1, MOST - 1, MOST}) {
            CHECK.due("rule(1, " + what + ")", Check.THREW, Check.rule(desk, 1, what));
        }
        CHECK.due("rule(1, 0)", 1, Check.rule(desk, 1, 0));
    }

    /** 1: its LITERALS, 2: its VARIABLES, 3: its TOTAL, 4: how many of its ATOMS .. : least and most. */
    private static void ruleAtItsLimits() {
        rule("p(1):-1=1.", 0, 1, 0, 0, 0);
        rule("p(A,B):-q(A,B,C,D),r(E,F,G,H),1=1,1=1,1=1,1=1.", 0, 6, 8, 0, 0);
        rule("p(X):-p(X),p(X),p(X),!q(X).", 0, 4, 1, 0, 3);
        rule("p(X):-q(X),r(X),s(X).q(1):-p(1).r(1):-q(1).s(1).", 0, 3, 1, 0, 2);
        rule("p(count(X)):-q(X).", 0, 1, 1, 1, 0);
        rule("p(1,sum(X)):-q(X).", 0, 1, 1, 2, 0);
        rule("p(1,2,least(X)):-q(X).", 0, 1, 1, 3, 0);
        rule("p(1,2,3,most(X)):-q(X).", 0, 1, 1, 4, 0);
        rule(Check.FIFTEEN + "p(X):-a(X),p(X).", 15, 2, 1, 0, 1);
        // the TOTAL is that of its own RULE
        PlanDesk desk = Check.desk("p(count(X)):-q(X).r(1):-q(1).s(sum(X)):-q(X).");
        CHECK.due("rule(0, 3)", 1, Check.rule(desk, 0, 3));
        CHECK.due("rule(1, 3)", 0, Check.rule(desk, 1, 3));
        CHECK.due("rule(2, 3)", 2, Check.rule(desk, 2, 3));
    }

    private static void rule(String text, int... due) {
        PlanDesk desk = Check.desk(text);
        for (int what = 0; what < due.length; what++) {
            CHECK.due("rule(0, " + what + ") of " + text, due[what], Check.rule(desk, 0, what));
        }
    }

    /** NoSuchElementException: there is none such. */
    private static void literalNoneSuch() {
        PlanDesk desk = Check.desk("a(1).a(X):-b(X).b(X):-a(X),!c(X),1=1,2=2,3=3,4=4.");
        int[] none = {-1, -2, 6, 7, 30, 180, LEAST, LEAST + 1, MOST - 1, MOST};
        for (int other : none) {
            CHECK.due("literal(" + other + ", 0, 0)", Check.THREW, Check.literal(desk, other, 0, 0));
            CHECK.due("literal(0, " + other + ", 0)", Check.THREW, Check.literal(desk, 0, other, 0));
            CHECK.due("literal(1, " + other + ", 0)", Check.THREW, Check.literal(desk, 1, other, 0));
            CHECK.due("literal(1, 5, " + other + ")", Check.THREW, Check.literal(desk, 1, 5, other));
        }
        CHECK.due("literal(0, 1, 0)", Check.THREW, Check.literal(desk, 0, 1, 0));
        CHECK.due("literal(2, 0, 0)", Check.THREW, Check.literal(desk, 2, 0, 0));
        CHECK.due("literal(1, 5, 5)", Check.THREW, Check.literal(desk, 1, 5, 5));
        // RULE and LITERAL are looked at each by itself: these would meet the row of another one
        CHECK.due("literal(1, -6, 0)", Check.THREW, Check.literal(desk, 1, -6, 0));
        CHECK.due("literal(0, 6, 0)", Check.THREW, Check.literal(desk, 0, 6, 0));
        CHECK.due("literal(-1, 6, 0)", Check.THREW, Check.literal(desk, -1, 6, 0));
    }

    /** The last LITERAL of the last RULE that there can be. */
    private static void literalAtItsLimits() {
        PlanDesk desk = Check.desk(Check.times(29, "a(1):-1=1.")
                + "b(A,B):-!d(A,_,B,1),H is G%F,E=H,c(A,B,C,D),c(D,F,_,G),A<E.");
        // ! d waits for A and B alone, so it goes behind the first c
        int[][] due = {{3, 0, 3, 0, 4}, {0, 1, 2, 13, 4}, {4, 0, 3, 1, 6},
            {1, 3, -1, 0, 7}, {2, 2, -1, 0, 8}, {5, 2, -1, 0, 8}};
        for (int i = 0; i < due.length; i++) {
            for (int what = 0; what < 5; what++) {
                CHECK.due("literal(29, " + i + ", " + what + ")", due[i][what],
                        Check.literal(desk, 29, i, what));
            }
        }
        CHECK.due("literal(29, 6, 0)", Check.THREW, Check.literal(desk, 29, 6, 0));
        CHECK.due("literal(28, 0, 1)", 2, Check.literal(desk, 28, 0, 1));
        CHECK.due("literal(28, 0, 4)", 0, Check.literal(desk, 28, 0, 4));
    }

    /** A call that is refused leaves all as it was. */
    private static void refusedQuestionsChangeNothing() {
        PlanDesk desk = Check.desk(GOOD);
        desk.type(Check.word("p(X"), 3);
        Check.rule(desk, 1, 0);
        Check.rule(desk, 0, 5);
        Check.literal(desk, 0, 3, 0);
        Check.literal(desk, 0, 0, 5);
        desk.predicate(3, 0);
        desk.predicate(0, 5);
        desk.hangs(3, 3);
        desk.fault(2);
        desk.type('$', 0);
        same(desk, "behind refused calls");
        CHECK.due("fault(0)", 0, desk.fault(0));
        CHECK.due("program()", Check.THREW, Check.program(desk));
        CHECK.due("fault(1) is the length of the tape", 3, desk.fault(1));
    }

    /** An object is used for at most 512 calls: the last of them is answered as the first. */
    private static void lastCalls() {
        PlanDesk desk = new PlanDesk();
        int calls = 0;
        while (calls < 456) {
            CHECK.due("a full tape", true, Check.type(desk, Check.times(599, " ") + "p"));
            CHECK.due("program()", Check.THREW, Check.program(desk));
            calls += 76;
        }
        CHECK.due("type " + GOOD, true, Check.type(desk, GOOD));
        CHECK.due("program of " + GOOD, 1, Check.program(desk));
        calls += (GOOD.length() + 7) / 8 + 1;
        same(desk, "among the last calls");
        calls += 30;
        while (calls < 512) {
            CHECK.due("the last calls", 3, desk.predicates());
            calls++;
        }
    }
}
