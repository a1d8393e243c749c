/** Promise 3. */
public final class ProgramTest {
    private static final Check CHECK = new Check("ProgramTest");

    public static void main(String[] args) {
        wholePrograms();
        tokens();
        whatAFaultLeaves();
        whatANewProgramReplaces();
        CHECK.end();
    }

    private static void wholePrograms() {
        CHECK.reads("", 0);
        CHECK.reads("     ", 0);
        CHECK.reads("p(1).", 0);
        CHECK.reads("p(1,a,-2,b7).", 0);
        CHECK.reads("p(X):-q(X).", 1);
        CHECK.reads("  p ( X )  :-  q ( X , _ )  .  ", 1);
        CHECK.reads("p(1):-a=b,1!=2,a<b,-1<=c,3>a,b>=- 4.", 1);
        CHECK.reads("p(A,B,C,D):-A is 1+2,B is A-a,C is B*-3,D is C/A,E is D%C.", 1);
        CHECK.reads("p(count(X),Y):-q(X,Y),!r(X,_).", 1);
        CHECK.reads("p(X,sum(X)):-q(X).p2(least(X)):-q(X).p3(most(Y),Y):-q(Y).", 3);
        CHECK.reads("p(X):-q(X),r(X),s(X),!t(X),!u(X),!v(X).", 1);
        CHECK.reads("p(A):-q(A,B,C,D),r(E,F,G,H).", 1);
        CHECK.reads(Check.times(30, "a(1):-1=1.") + "b(2).", 30);
        CHECK.reads("a(1).b(1).c(1).d(1).e(1).f(1).g(1).h(1).i(1).j(1).k(1).l(1).m(1).n(1)."
                + "o(1).p(q,r,s,t):-u=v.", 1);
        CHECK.reads("p(A,B,C):-q(A),!q(B),B=C,C=1.", 1);
        CHECK.reads("p(X):-X is Y+Z,Y=Z,Z=1.", 1);
        CHECK.reads("p(X):-1=X.", 1);
        CHECK.reads("p(X):-p(X),p(X),!q(X).", 1);
    }

    private static void tokens() {
        CHECK.reads("abcde6(Abc4,123456789):-q(Abc4).", 1);
        CHECK.reads("p(X):-q(X),X!=1,X<=2,X>=3.", 1);
        CHECK.reads("p(X):-q(X),X is 1--1.", 1);
        CHECK.reads("iss(counts,sums,leasts).mosts(i).", 0);
        CHECK.reads("p(1):-a1=b2.", 1);
        CHECK.reads("as(it,bount,mum,beast).cost(counu,sun,leasu,mosu).", 0);
    }

    private static void whatAFaultLeaves() {
        PlanDesk desk = Check.desk("p(1).q(X):-p(X),!r(X).");
        String[] faulty = {"z(", "p(1).p(1,2).", "z(X):-y(Y).", "z(X):-y(X),!z(X).", "z(count(X)):-z(X)."};
        for (String text : faulty) {
            Check.type(desk, text);
            CHECK.due("program of " + text, Check.THREW, Check.program(desk));
            CHECK.due("predicates() behind " + text, 3, desk.predicates());
            CHECK.due("predicate(0, 100) behind " + text, 'p', desk.predicate(0, 100));
            CHECK.due("predicate(1, 1) behind " + text, 1, desk.predicate(1, 1));
            CHECK.due("hangs(1, 2) behind " + text, true, desk.hangs(1, 2));
            CHECK.due("rule(0, 1) behind " + text, 2, Check.rule(desk, 0, 1));
            CHECK.due("literal(0, 1, 2) behind " + text, 2, Check.literal(desk, 0, 1, 2));
            CHECK.due("rule(1, 0) behind " + text, Check.THREW, Check.rule(desk, 1, 0));
        }
        Check.type(desk, "$");
        CHECK.due("program of $", Check.THREW, Check.program(desk));
        Check.type(desk, "a(1).");
        CHECK.due("the tape was empty", 0, Check.program(desk));
        CHECK.due("one predicate", 1, desk.predicates());
    }

    private static void whatANewProgramReplaces() {
        PlanDesk desk = Check.desk("p(1).p(2).q(X):-p(X).q(X):-q(X).");
        Check.type(desk, "q(1):-1=1.p(a):-!q(1),!r(1,2).");
        CHECK.due("program()", 2, Check.program(desk));
        CHECK.due("predicates()", 3, desk.predicates());
        CHECK.due("FACTS of q", 0, desk.predicate(0, 3));
        CHECK.due("FACTS of p", 0, desk.predicate(1, 3));
        CHECK.due("RULES of q", 1, desk.predicate(0, 2));
        CHECK.due("STRATUM of q", 0, desk.predicate(0, 1));
        CHECK.due("STRATUM of p", 1, desk.predicate(1, 1));
        CHECK.due("hangs(q, q)", false, desk.hangs(0, 0));
        CHECK.due("hangs(p, q)", true, desk.hangs(1, 0));
        Check.type(desk, "p(1).");
        CHECK.due("program() of a FACT", 0, Check.program(desk));
        CHECK.due("predicate(1, 0) of the one before", PlanDesk.NONE, desk.predicate(1, 0));
        CHECK.due("hangs(1, 0) of the one before", false, desk.hangs(1, 0));
        CHECK.due("hangs(0, 1) of the one before", false, desk.hangs(0, 1));
        CHECK.due("rule(0, 0) of the one before", Check.THREW, Check.rule(desk, 0, 0));
        CHECK.due("literal(0, 0, 0) of the one before", Check.THREW, Check.literal(desk, 0, 0, 0));
        CHECK.due("program() of an empty tape", 0, Check.program(desk));
        CHECK.due("no predicates", 0, desk.predicates());
        CHECK.due("no RULE", Check.THREW, Check.rule(desk, 0, 0));
    }
}
