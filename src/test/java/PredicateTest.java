/** Promise 6. */
public final class PredicateTest {
    private static final Check CHECK = new Check("PredicateTest");

    public static void main(String[] args) {
        counts();
        facts();
        names();
        strata();
        noneSuch();
        CHECK.end();
    }

    private static void row(PlanDesk desk, int p, int... due) {
        for (int what = 0; what < due.length; what++) {
            CHECK.due("predicate(" + p + ", " + what + ")", due[what], desk.predicate(p, what));
        }
    }

    private static void counts() {
        PlanDesk desk = Check.desk("e(1,2).e(2,3).t(X,Y):-e(X,Y).t(X,Z):-t(X,Y),e(Y,Z)."
                + "node7(X):-e(X,_),!w(X,1,2,3).e(3,1).t(0,0).");
        row(desk, 0, 2, 0, 0, 3, 1);
        row(desk, 1, 2, 0, 2, 1, 1);
        row(desk, 2, 1, 1, 1, 0, 5);
        row(desk, 3, 4, 0, 0, 0, 1);
    }

    private static void facts() {
        PlanDesk desk = Check.desk("p(1).p(01).p(2).p(-1).p(- 1).p(0).p(-0).p(a).p(a).p(b)."
                + "q(1,2).q(2,1).q(1,2).q(1,1).r(a).p(p).");
        CHECK.due("FACTS of p", 7, desk.predicate(0, 3));
        CHECK.due("FACTS of q", 3, desk.predicate(1, 3));
        CHECK.due("FACTS of r", 1, desk.predicate(2, 3));
        PlanDesk many = Check.desk(Check.times(120, "p(1)."));
        CHECK.due("one FACT many times", 1, many.predicate(0, 3));
        StringBuilder hundred = new StringBuilder();
        for (int i = 0; i < 60; i++) {
            hundred.append("p(").append((char) ('a' + i % 26)).append(i % 10).append(").");
        }
        CHECK.due("60 FACTS", 60, Check.desk(hundred.toString()).predicate(0, 3));
        StringBuilder shortest = new StringBuilder();
        for (char name = 'a'; name < 'h'; name++) {
            for (int i = 0; i < 10; i++) {
                shortest.append(name).append("(").append(i).append(").");
            }
        }
        PlanDesk desk2 = Check.desk(shortest.append(Check.times(50, "h(x).")).toString());
        for (int p = 0; p < 8; p++) {
            CHECK.due("FACTS of " + p, p < 7 ? 10 : 1, desk2.predicate(p, 3));
        }
    }

    private static void names() {
        PlanDesk desk = Check.desk("abcdef(1).z(1).a0b9z8(1).");
        String[] names = {"abcdef", "z", "a0b9z8"};
        for (int p = 0; p < names.length; p++) {
            CHECK.due("letters", names[p].length(), desk.predicate(p, 4));
            for (int i = 0; i < 8; i++) {
                int due = i < names[p].length() ? names[p].charAt(i) : PlanDesk.NONE;
                CHECK.due("letter " + i + " of " + names[p], due, desk.predicate(p, 100 + i));
            }
        }
    }

    private static void strata() {
        PlanDesk desk = Check.desk("p(X):-q(X),!r(X).r(X):-q(X),!s(X).s(count(X)):-q(X)."
                + "q(X):-u(X),q(X).v(1):-p(1).u(1):-!w(1).");
        // p 0, q 1, r 2, s 3, u 4, v 5, w 6
        int[] due = {4, 1, 3, 2, 1, 4, 0};
        for (int p = 0; p < due.length; p++) {
            CHECK.due("stratum of " + p, due[p], desk.predicate(p, 1));
        }
        PlanDesk total = Check.desk("p(count(X)):-q(X),!r(1).q(1):-!s(1).t(1):-t(1),u(1).u(1):-t(1).");
        int[] dueTotal = {2, 1, 0, 0, 0, 0};
        for (int p = 0; p < dueTotal.length; p++) {
            CHECK.due("stratum with TOTAL of " + p, dueTotal[p], total.predicate(p, 1));
        }
        StringBuilder ladder = new StringBuilder();
        for (char name = 'a'; name < 'p'; name++) {
            ladder.append(name).append("(1):-!").append((char) (name + 1)).append("(1).");
        }
        PlanDesk high = Check.desk(ladder.toString());
        for (int p = 0; p < 16; p++) {
            CHECK.due("stratum on the ladder of " + p, 15 - p, high.predicate(p, 1));
        }
    }

    private static void noneSuch() {
        PlanDesk desk = Check.desk("p(1).q(1).");
        int[] ps = {-1, 2, 16, Integer.MIN_VALUE, Integer.MAX_VALUE};
        for (int p : ps) {
            for (int what = 0; what <= 4; what++) {
                CHECK.due("predicate(" + p + ", " + what + ")", PlanDesk.NONE, desk.predicate(p, what));
            }
            CHECK.due("predicate(" + p + ", 100)", PlanDesk.NONE, desk.predicate(p, 100));
        }
        int[] whats = {-1, 5, 99, 101, 106, 200, Integer.MIN_VALUE, Integer.MAX_VALUE};
        for (int what : whats) {
            CHECK.due("predicate(0, " + what + ")", PlanDesk.NONE, desk.predicate(0, what));
        }
    }
}
