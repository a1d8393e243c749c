/** Promise 8. */
public final class RuleTest {
    private static final Check CHECK = new Check("RuleTest");

    public static void main(String[] args) {
        PlanDesk desk = Check.desk("e(1,2).t(X,Y):-e(X,Y).e(2,3).t(X,Z):-t(X,Y),t(Y,Z)."
                + "c(X,count(Y)):-t(X,Y).s(sum(Y)):-e(X,Y)."
                + "l(least(Y)):-t(X,Y),!e(Y,X),X<Y.m(most(A)):-A is B+1,B=C,c(C,D),D!=A,!e(A,_),1=1.");
        row(desk, 0, 1, 1, 2, 0, 0);
        row(desk, 1, 1, 2, 3, 0, 2);
        row(desk, 2, 2, 1, 2, 1, 0);
        row(desk, 3, 3, 1, 2, 2, 0);
        row(desk, 4, 4, 3, 2, 3, 0);
        row(desk, 5, 5, 6, 4, 4, 0);
        circles();
        noneSuch(desk);
        thirty();
        CHECK.end();
    }

    private static void row(PlanDesk desk, int r, int... due) {
        for (int what = 0; what < due.length; what++) {
            CHECK.due("rule(" + r + ", " + what + ")", due[what], Check.rule(desk, r, what));
        }
    }

    private static void circles() {
        PlanDesk desk = Check.desk("a(1):-b(1),c(1),a(1).b(1):-d(1),a(1),!c(1).c(1):-d(1).d(1):-d(1),d(1),d(2)."
                + "x(1):-a(1),b(1).a(2):-y=z.");
        int[] due = {2, 1, 0, 3, 0, 0};
        for (int r = 0; r < due.length; r++) {
            CHECK.due("circles of " + r, due[r], Check.rule(desk, r, 4));
        }
    }

    private static void noneSuch(PlanDesk desk) {
        int[] rs = {-1, 6, 30, Integer.MIN_VALUE, Integer.MAX_VALUE};
        for (int r : rs) {
            for (int what = -1; what <= 5; what++) {
                CHECK.due("rule(" + r + ", " + what + ")", Check.THREW, Check.rule(desk, r, what));
            }
        }
        int[] whats = {-1, 5, 100, Integer.MIN_VALUE, Integer.MAX_VALUE};
        for (int what : whats) {
            CHECK.due("rule(0, " + what + ")", Check.THREW, Check.rule(desk, 0, what));
        }
    }

    private static void thirty() {
        PlanDesk desk = Check.desk(Check.times(29, "a(1):-1=1.") + "b(X):-a(X),!c(X,Y),Y=X.");
        CHECK.due("HEAD of the last", 1, Check.rule(desk, 29, 0));
        CHECK.due("LITERALS of the last", 3, Check.rule(desk, 29, 1));
        CHECK.due("VARIABLES of the last", 2, Check.rule(desk, 29, 2));
        CHECK.due("VARIABLES of the one ahead", 0, Check.rule(desk, 28, 2));
        CHECK.due("behind the last", Check.THREW, Check.rule(desk, 30, 0));
    }
}
