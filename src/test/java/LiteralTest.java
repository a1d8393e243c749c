/** Promise 9. */
public final class LiteralTest {
    private static final Check CHECK = new Check("LiteralTest");

    public static void main(String[] args) {
        kinds();
        order();
        known();
        noneSuch();
        CHECK.end();
    }

    /** Each row: which one it is, its kind, its predicate, what is known, what has VALUES. */
    private static void plan(String text, int[]... due) {
        PlanDesk desk = Check.desk(text);
        int r = desk.predicates() == 0 ? 0 : lastRule(desk);
        CHECK.due("LITERALS of " + text, due.length, Check.rule(desk, r, 1));
        for (int i = 0; i < due.length; i++) {
            for (int what = 0; what < 5; what++) {
                CHECK.due("literal(" + r + ", " + i + ", " + what + ") of " + text, due[i][what],
                        Check.literal(desk, r, i, what));
            }
        }
    }

    private static int lastRule(PlanDesk desk) {
        int r = 0;
        while (Check.rule(desk, r + 1, 0) != Check.THREW) {
            r++;
        }
        return r;
    }

    private static int[] row(int... numbers) {
        return numbers;
    }

    private static void kinds() {
        plan("p(X):-q(X),!r(X),X<1,Y is X+1.",
                row(0, 0, 1, 0, 1), row(1, 1, 2, 1, 1), row(2, 2, -1, 0, 1), row(3, 3, -1, 0, 2));
        plan("z(1).p(1):-1=1,!q(1),r(a).",
                row(0, 2, -1, 0, 0), row(1, 1, 2, 1, 0), row(2, 0, 3, 1, 0));
        plan("p(1):-q(X),X=2.", row(1, 2, -1, 0, 1), row(0, 0, 1, 1, 1));
        String relations = "!= < <= > >=";
        for (String relation : relations.split(" ")) {
            plan("p(1):-q(X),X" + relation + "2.", row(0, 0, 1, 0, 1), row(1, 2, -1, 0, 1));
        }
    }

    private static void order() {
        plan("q(A):-A is B+1,B=C,n(C),!e(A,C),t(A,D),D>A.",
                row(2, 0, 1, 0, 1), row(1, 2, -1, 0, 2), row(0, 3, -1, 0, 3),
                row(3, 1, 2, 3, 3), row(4, 0, 3, 1, 4), row(5, 2, -1, 0, 4));
        // the first of the ATOMS of which most is known, not the first of all
        plan("p(X):-q(X,Y),r(1,X),s(X,2).",
                row(1, 0, 2, 1, 1), row(2, 0, 3, 3, 1), row(0, 0, 1, 1, 2));
        plan("p(X):-q(X,_,1),r(1,2,_),s(X,Y,3).",
                row(1, 0, 2, 3, 0), row(0, 0, 1, 4, 1), row(2, 0, 3, 5, 2));
        // _ is not known
        plan("p(X):-q(_,_,X),r(X,1).", row(1, 0, 2, 2, 1), row(0, 0, 1, 4, 1));
        // a relation goes ahead of an ATOM of which all is known
        plan("p(X):-q(1),X=2,r(X).", row(1, 2, -1, 0, 1), row(0, 0, 1, 1, 1), row(2, 0, 2, 1, 1));
        // of = one side is enough, whichever it is; != wants both
        plan("p(X):-Y=X,1!=Y,X=1.", row(2, 2, -1, 0, 1), row(0, 2, -1, 0, 2), row(1, 2, -1, 0, 2));
        plan("p(X):-X=Y,Y>X,1=X.", row(2, 2, -1, 0, 1), row(0, 2, -1, 0, 2), row(1, 2, -1, 0, 2));
        plan("p(X):-X=X,q(X).", row(1, 0, 1, 0, 1), row(0, 2, -1, 0, 1));
        // an is waits for what is behind it, though it be its own VARIABLE
        plan("p(X):-X is X+1,q(X).", row(1, 0, 1, 0, 1), row(0, 3, -1, 0, 1));
        plan("p(X):-X is 1+2,q(X).", row(0, 3, -1, 0, 1), row(1, 0, 1, 1, 1));
        plan("p(X):-X is Y+Z,Y is 1-Z,Z is 1%2.",
                row(2, 3, -1, 0, 1), row(1, 3, -1, 0, 2), row(0, 3, -1, 0, 3));
        // an ATOM with ! waits for its VARIABLES, but not for _
        plan("p(X):-!r(X,_),!s(_,_),q(X).",
                row(1, 1, 2, 0, 0), row(2, 0, 3, 0, 1), row(0, 1, 1, 1, 1));
    }

    private static void known() {
        plan("p(X):-q(X,X,1,a).", row(0, 0, 1, 12, 1));
        plan("p(X):-q(X,Y),q(Y,X).", row(0, 0, 1, 0, 2), row(1, 0, 1, 3, 2));
        plan("p(X):-X=1,!q(-1,_,X,b).", row(0, 2, -1, 0, 1), row(1, 1, 1, 13, 1));
        plan("p(A):-q(A,B,C,D),r(E,F,G,H).", row(0, 0, 1, 0, 4), row(1, 0, 2, 0, 8));
        plan("p(A,count(B)):-q(A,B).", row(0, 0, 1, 0, 2));
    }

    private static void noneSuch() {
        PlanDesk desk = Check.desk("p(X):-q(X),X<1.p(X):-r(X).");
        int[] rs = {-1, 2, 30, Integer.MIN_VALUE, Integer.MAX_VALUE};
        for (int r : rs) {
            CHECK.due("literal(" + r + ", 0, 0)", Check.THREW, Check.literal(desk, r, 0, 0));
        }
        int[] is = {-1, 2, 6, Integer.MIN_VALUE, Integer.MAX_VALUE};
        for (int i : is) {
            CHECK.due("literal(0, " + i + ", 0)", Check.THREW, Check.literal(desk, 0, i, 0));
        }
        CHECK.due("literal(1, 1, 0)", Check.THREW, Check.literal(desk, 1, 1, 0));
        PlanDesk full = Check.desk(Check.times(30, "a(1):-1=1."));
        CHECK.due("literal(29, 0, 1)", 2, Check.literal(full, 29, 0, 1));
        CHECK.due("literal(30, 0, 0)", Check.THREW, Check.literal(full, 30, 0, 0));
        int[] whats = {-1, 5, 100, Integer.MIN_VALUE, Integer.MAX_VALUE};
        for (int what : whats) {
            CHECK.due("literal(0, 0, " + what + ")", Check.THREW, Check.literal(desk, 0, 0, what));
        }
    }
}
