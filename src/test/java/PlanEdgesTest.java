/**
 * What the document says of HANGS, STRATUM and THE PLAN: one method for each sentence, or part
 * of one, which stands above it.
 */
public final class PlanEdgesTest {
    private static final Check CHECK = new Check("PlanEdgesTest");

    public static void main(String[] args) {
        hangsOnAtomsOfItsRules();
        hangsOnWhatTheseHangOn();
        leastFromZero();
        notBelow();
        aboveWithNot();
        aboveWithTotal();
        highestStratum();
        firstAsWritten();
        allHaveValues();
        butThatOfIs();
        ofEqualsOneSide();
        mostKnown();
        ofSuchTheFirst();
        anythingIsNotKnown();
        behindItAllHaveValues();
        aFullBody();
        CHECK.end();
    }

    /** The predicates that p HANGS on, as letters; all NAMES of these texts have one letter. */
    private static void hanging(String text, String... due) {
        PlanDesk desk = Check.desk(text);
        CHECK.due("predicates of " + text, due.length, desk.predicates());
        for (int p = 0; p < due.length; p++) {
            for (int q = 0; q < due.length; q++) {
                boolean hangs = due[p].indexOf(desk.predicate(q, 100)) >= 0;
                CHECK.due("hangs(" + p + ", " + q + ") of " + text, hangs, desk.hangs(p, q));
            }
        }
    }

    /** A predicate HANGS on those of the ATOMS in the BODIES of its RULES. */
    private static void hangsOnAtomsOfItsRules() {
        hanging("a(1).", "");
        hanging("a(b).b(a).", "", "");
        hanging("a(1):-b=c.", "");
        hanging("a(1):-b(1).", "b", "");
        hanging("a(1):-!b(1).", "b", "");
        hanging("a(1):-a(1).", "a");
        hanging("a(count(X)):-b(X).", "b", "");
        hanging("a(1):-b(1),c(1),d(1),!e(1),!f(1),!g(1).", "bcdefg", "", "", "", "", "", "");
        hanging("a(1):-b(1).a(1):-c(1).d(1):-a(e).e(1).", "bc", "", "", "abc", "");
    }

    /** .. on what these hang on, and so on. */
    private static void hangsOnWhatTheseHangOn() {
        hanging("a(1):-b(1).b(1):-c(1).c(1):-d(1).", "bcd", "cd", "d", "");
        hanging("c(1):-d(1).b(1):-c(1).a(1):-b(1).", "d", "", "cd", "bcd");
        hanging("a(1):-!b(1).b(count(X)):-c(X).c(1):-d(1),c(1).", "bcd", "cd", "cd", "");
        hanging("a(1):-b(1).b(1):-a(1).", "ab", "ab");
        hanging("a(1):-b(1).b(1):-c(1).c(1):-b(1).", "bc", "bc", "bc");
        String round = "d(1):-e(1).b(1):-c(1).e(1):-a(1).a(1):-b(1).c(1):-d(1).";
        hanging(round, "abcde", "abcde", "abcde", "abcde", "abcde");
    }

    /** The STRATUM of each predicate, in the order of predicates. */
    private static void strata(String text, int... due) {
        PlanDesk desk = Check.desk(text);
        CHECK.due("predicates of " + text, due.length, desk.predicates());
        for (int p = 0; p < due.length; p++) {
            CHECK.due("predicate(" + p + ", 1) of " + text, due[p], desk.predicate(p, 1));
        }
    }

    /** STRATUM of a predicate: the least numbers from 0 on. */
    private static void leastFromZero() {
        strata("a(1).", 0);
        strata("a(1):-1=1.", 0);
        strata("a(X):-X is 1+1,X!=b.", 0);
        strata("a(1):-a(1).", 0);
        strata("a(1).b(1):-!a(1).c(1).", 0, 1, 0);
    }

    /** Not below that of a predicate on which one of its RULES asks by an ATOM. */
    private static void notBelow() {
        strata("a(1):-b(1).b(1):-!c(1).", 1, 1, 0);
        strata("d(1):-a(1).a(1):-b(1).b(1):-!c(1).", 1, 1, 1, 0);
        strata("a(1):-b(1).b(1):-a(1).a(1):-!c(1).", 1, 1, 0);
        strata("a(1):-b(1).b(1):-d(1).d(1):-a(1),!c(1).", 1, 1, 1, 0);
        strata("a(1):-e(1),b(1),f(1).b(1):-!c(1).c(1):-!d(1).e(1):-!d(1).", 2, 1, 2, 0, 1, 0);
        strata("a(1):-c(1).b(1):-!c(1).a(1):-b(1).a(1):-c(1).", 1, 0, 1);
    }

    /** And above it, if that is with !. */
    private static void aboveWithNot() {
        strata("a(1):-!b(1).", 1, 0);
        strata("a(1):-!b(1),!c(1),d(1).", 1, 0, 0, 0);
        strata("a(1):-!b(1).b(1):-!c(1).c(1):-!d(1).", 3, 2, 1, 0);
        strata("c(1):-!d(1).b(1):-!c(1).a(1):-!b(1).", 1, 0, 2, 3);
        strata("a(1):-b(1),!b(1).", 1, 0);
        strata("a(1):-!b(1),!c(1).b(1):-!c(1).", 2, 1, 0);
    }

    /** .. or the RULE has a TOTAL. */
    private static void aboveWithTotal() {
        for (String total : new String[] {"count", "sum", "least", "most"}) {
            strata("a(" + total + "(X)):-b(X).", 1, 0);
            strata("a(" + total + "(X)):-b(X),!c(X).c(1):-b(1).", 1, 0, 0);
            strata("a(" + total + "(X)):-b(X),c(X).c(1):-!b(1).", 2, 0, 1);
            strata("a(" + total + "(X)):-X=1.", 0);
            strata("a(" + total + "(X)):-b(X).a(X):-c(X).c(X):-b(X).", 1, 0, 0);
        }
    }

    /** Sixteen predicates have at most sixteen strata. */
    private static void highestStratum() {
        StringBuilder up = new StringBuilder();
        StringBuilder down = new StringBuilder();
        int[] upDue = new int[16];
        int[] downDue = new int[16];
        for (int i = 0; i < 15; i++) {
            up.append((char) ('b' + i)).append("(1):-!").append((char) ('a' + i)).append("(1).");
            down.append((char) ('a' + i)).append("(count(X)):-").append((char) ('b' + i)).append("(X).");
        }
        upDue[0] = 1; // b and a stand in the first RULE, in this order
        upDue[1] = 0;
        for (int i = 2; i < 16; i++) {
            upDue[i] = i;
        }
        for (int i = 0; i < 16; i++) {
            downDue[i] = 15 - i;
        }
        strata(up.toString(), upDue);
        strata(down.toString(), downDue);
    }

    /** Which LITERALS are asked one after the other, as they are numbered in the last RULE. */
    private static void order(String text, int... due) {
        PlanDesk desk = Check.desk(text);
        CHECK.due("LITERALS of " + text, due.length, Check.rule(desk, 0, 1));
        for (int i = 0; i < due.length; i++) {
            CHECK.due("literal(0, " + i + ", 0) of " + text, due[i], Check.literal(desk, 0, i, 0));
        }
        CHECK.due("no more of " + text, Check.THREW, Check.literal(desk, 0, due.length, 0));
    }

    /** The same for one of the numbers what that literal() tells, in the order of THE PLAN. */
    private static void column(String text, int what, int... due) {
        PlanDesk desk = Check.desk(text);
        for (int i = 0; i < due.length; i++) {
            CHECK.due("literal(0, " + i + ", " + what + ") of " + text, due[i],
                    Check.literal(desk, 0, i, what));
        }
    }

    /** The first one (as they are written) that is a relation, an is or an ATOM with !. */
    private static void firstAsWritten() {
        order("p(1):-1<2,X is 1+2,!q(1).", 0, 1, 2);
        order("p(1):-!q(1),1<2,X is 1+2.", 0, 1, 2);
        order("p(1):-X is 1+2,!q(1),1<2.", 0, 1, 2);
        order("p(1):-q(1),r(1),1<2.", 2, 0, 1);
        order("p(1):-q(1),r(1),X is 1+2.", 2, 0, 1);
        order("p(1):-q(1),r(1),!s(1).", 2, 0, 1);
        order("p(1):-q(1),r(1),s(1).", 0, 1, 2);
        // again and again from the first on
        order("p(1):-A<B,A=1,B=2.", 1, 2, 0);
        order("p(1):-A<B,A=1,C=3,B=2.", 1, 2, 3, 0);
    }

    /** And can be asked: all its VARIABLES have their VALUES. */
    private static void allHaveValues() {
        for (String sign : new String[] {"!=", "<", "<=", ">", ">="}) {
            order("p(1):-X" + sign + "Y,q(X),r(Y).", 1, 2, 0);
            order("p(1):-Y" + sign + "X,q(X),r(Y).", 1, 2, 0);
            order("p(1):-X" + sign + "1,q(X),r(Y).", 1, 0, 2);
            order("p(1):-1" + sign + "Y,q(X),r(Y).", 1, 2, 0);
        }
        order("p(1):-!s(X,Y),q(X),r(Y).", 1, 2, 0);
        order("p(1):-!s(1,2,a,Y),q(X),r(Y).", 1, 2, 0);
        order("p(1):-!s(X),q(X),r(Y).", 1, 0, 2);
        order("p(1):-!s(_),q(X),r(Y).", 0, 1, 2);
    }

    /** .. but that of is. */
    private static void butThatOfIs() {
        order("p(1):-q(X),r(Y),Z is X+Y.", 0, 1, 2);
        order("p(1):-Z is X+Y,q(X),r(Y).", 1, 2, 0);
        order("p(1):-Z is X+1,q(X),r(Y).", 1, 0, 2);
        order("p(1):-Z is 1+Y,q(X),r(Y).", 1, 2, 0);
        order("p(1):-q(X),r(Y),X is 1+1.", 2, 0, 1);
        order("p(1):-X is Y+1,q(X),r(Y).", 1, 2, 0);
    }

    /** .. and of = one side's. */
    private static void ofEqualsOneSide() {
        order("p(1):-q(X),X=1.", 1, 0);
        order("p(1):-q(X),1=X.", 1, 0);
        order("p(1):-q(X),1=2.", 1, 0);
        order("p(1):-X=Y,q(X),r(Y).", 1, 0, 2);
        order("p(1):-Y=X,q(X),r(Y).", 1, 0, 2);
        order("p(1):-X=Y,q(Z),r(Y).", 1, 2, 0);
        order("p(1):-A=B,B=C,C=D,D=1.", 3, 2, 1, 0);
        column("p(1):-A=B,B=C,C=D,D=1.", 4, 1, 2, 3, 4);
    }

    /** If there is none, the ATOM without ! of which most ARGUMENTS are known. */
    private static void mostKnown() {
        order("p(1):-q(A),r(1).", 1, 0);
        order("p(1):-q(A,1),r(1,2).", 1, 0);
        order("p(1):-q(A,1,B),r(1,2,C),s(1,2,3).", 2, 1, 0);
        order("p(1):-q(A,1,2,3),r(1,2,3,4).", 1, 0);
        // how many, not how large a part
        order("p(1):-q(1),r(1,2,A,B).", 1, 0);
        // a VARIABLE that has a VALUE counts as a value does
        order("p(1):-q(A,B),r(B,C),s(A,B).", 0, 2, 1);
        order("p(1):-X=1,q(A,2),r(X,X).", 0, 2, 1);
        // twice the same VARIABLE is two ARGUMENTS
        order("p(1):-X=1,q(2,A,B),r(X,X,C).", 0, 2, 1);
    }

    /** Of such the first one. */
    private static void ofSuchTheFirst() {
        order("p(1):-q(A),r(B),s(C).", 0, 1, 2);
        order("p(1):-q(A),r(1,B),s(2,C).", 1, 2, 0);
        order("p(1):-q(A,1),r(2,B),s(C).", 0, 1, 2);
        order("p(1):-q(A),r(B),s(B).", 0, 1, 2);
        order("p(1):-q(B),r(A),s(B).", 0, 2, 1);
    }

    /** Not _ . */
    private static void anythingIsNotKnown() {
        order("p(1):-q(_,_,_,_),r(1).", 1, 0);
        order("p(1):-q(_,_),r(A).", 0, 1);
        order("p(1):-q(A),r(_,_).", 0, 1);
        column("p(1):-q(_,_,_,_).", 3, 0);
        column("p(1):-q(1,_,a,_).", 3, 5);
        column("p(1):-!q(_,-1,_,b).", 3, 10);
        column("p(1):-q(_,X),!r(X,_).", 4, 1, 1);
    }

    /** Behind it all its VARIABLES have VALUES. */
    private static void behindItAllHaveValues() {
        column("p(1):-q(A,B,C,D),r(E,F,G,H).", 4, 4, 8);
        column("p(1):-q(A,A,A,A),r(A,B,A,B).", 4, 1, 2);
        column("p(1):-q(1,a,_,-1),r(A).", 4, 0, 1);
        column("p(1):-X is 1+1,Y=X,q(X,Y,Z),!r(Z),Z<Y.", 4, 1, 2, 3, 3, 3);
        column("p(1):-q(A,B),r(B,C),s(C,A,D).", 3, 0, 1, 3);
        column("p(1):-q(X,X).", 3, 0);
        column("p(1):-q(X),r(X,X,X,X).", 3, 0, 15);
        column("p(1):-q(1,2,3,4),!r(1,2,3,4).", 3, 15, 15);
    }

    /** Six LITERALS, the most there can be, each kind among them. */
    private static void aFullBody() {
        String text = "p(F):-F is E*2,E=D,D>C,!s(C,D),q(B,C),r(A,D,B).";
        order(text, 4, 5, 1, 0, 2, 3);
        column(text, 1, 0, 0, 2, 3, 2, 1);
        column(text, 2, 2, 3, -1, -1, -1, 1);
        column(text, 3, 0, 4, 0, 0, 0, 3);
        column(text, 4, 2, 4, 5, 6, 6, 6);
    }
}
