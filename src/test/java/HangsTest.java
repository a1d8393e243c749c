/** Promise 7. */
public final class HangsTest {
    private static final Check CHECK = new Check("HangsTest");

    public static void main(String[] args) {
        // a 0, b 1, c 2, d 3, e 4, f 5
        PlanDesk desk = Check.desk("a(X):-b(X).b(X):-c(X),!d(X).c(X):-c(X).d(count(X)):-e(X).f(a).");
        String[] due = {"bcde", "cde", "c", "e", "", ""};
        table(desk, due);

        table(Check.desk("a(1):-b(1).b(1):-c(1).c(1):-a(1).d(1):-a(1).e(1):-f=g."),
                new String[] {"abc", "abc", "abc", "abc", ""});
        noneSuch(desk);

        StringBuilder chain = new StringBuilder();
        for (char name = 'p'; name > 'a'; name--) {
            chain.append(name).append("(1):-").append((char) (name - 1)).append("(1).");
        }
        PlanDesk longest = Check.desk(chain.toString());
        for (int p = 0; p < 16; p++) {
            for (int q = 0; q < 16; q++) {
                CHECK.due("chain hangs(" + p + ", " + q + ")", p < q, longest.hangs(p, q));
            }
        }
        CHECK.due("chain hangs(0, 16)", false, longest.hangs(0, 16));
        CHECK.due("chain hangs(16, 15)", false, longest.hangs(16, 15));
        shorter();
        CHECK.end();
    }

    /** What hung in the PROGRAM before is gone. */
    private static void shorter() {
        PlanDesk desk = Check.desk("a(1):-b(1).b(1):-c(1),d(1).c(1):-d(1),b(1).");
        for (int round = 0; round < 3; round++) {
            Check.type(desk, "a(1):-b(1).");
            desk.program();
            for (int p = 0; p < 4; p++) {
                for (int q = 0; q < 4; q++) {
                    boolean hangs = p == 0 && q == 1;
                    CHECK.due("shorter hangs(" + p + ", " + q + ")", hangs, desk.hangs(p, q));
                }
            }
        }
    }

    private static void table(PlanDesk desk, String[] due) {
        for (int p = 0; p < due.length; p++) {
            for (int q = 0; q < due.length; q++) {
                boolean hangs = due[p].indexOf('a' + q) >= 0;
                CHECK.due("hangs(" + p + ", " + q + ")", hangs, desk.hangs(p, q));
            }
        }
    }

    private static void noneSuch(PlanDesk desk) {
        int[] others = {-1, 6, 16, 31, 32, 33, Integer.MIN_VALUE, Integer.MAX_VALUE};
        for (int other : others) {
            CHECK.due("hangs(0, " + other + ")", false, desk.hangs(0, other));
            CHECK.due("hangs(" + other + ", 1)", false, desk.hangs(other, 1));
            CHECK.due("hangs(" + other + ", " + other + ")", false, desk.hangs(other, other));
        }
    }
}
