/** Promise 4. */
public final class FaultTest {
    private static final Check CHECK = new Check("FaultTest");
    private static final String SIXTEEN = Check.SIXTEEN;

    public static void main(String[] args) {
        whatItAnswers();
        tokensThatAreNone();
        heads();
        bodies();
        endsTooEarly();
        limits();
        facts();
        numbersOfArguments();
        unbound();
        knots();
        whichIsFirst();
        CHECK.end();
    }

    private static void whatItAnswers() {
        PlanDesk desk = new PlanDesk();
        Check.type(desk, "p(1).  $");
        CHECK.due("program()", Check.THREW, Check.program(desk));
        CHECK.due("fault(0)", 1, desk.fault(0));
        CHECK.due("fault(1)", 7, desk.fault(1));
        int[] others = {-1, 2, 3, 100, Integer.MIN_VALUE, Integer.MAX_VALUE};
        for (int what : others) {
            CHECK.due("fault(" + what + ")", PlanDesk.NONE, desk.fault(what));
        }
        Check.type(desk, "p(1).");
        CHECK.due("fault(0) ahead of program()", 1, desk.fault(0));
        CHECK.due("program()", 0, Check.program(desk));
        CHECK.due("fault(0) behind it", 0, desk.fault(0));
        CHECK.due("fault(1) behind it", 0, desk.fault(1));
    }

    private static void tokensThatAreNone() {
        String none = "\"#$&';@[\\]^`{|}~?:";
        for (int i = 0; i < none.length(); i++) {
            CHECK.faults("p(1). " + none.charAt(i), 1, 6);
            CHECK.faults("p(1" + none.charAt(i) + ").", 1, 3);
        }
        CHECK.faults("abcdefg(1).", 1, 0);
        CHECK.faults("p(1):-q(abcdefg).", 1, 8);
        CHECK.faults("p(1):-q(Abcde).", 1, 8);
        CHECK.faults("p(1234567890).", 1, 2);
        CHECK.faults("p(0000000001).", 1, 2);
        CHECK.faults("p(aB).", 1, 3);
        CHECK.faults("p(1a).", 1, 3);
        CHECK.faults("p(1) : -q(1).", 1, 5);
        CHECK.faults("p(1):-1! =2.", 1, 7);
        CHECK.faults("p(1):-1< =2.", 1, 9);
        CHECK.faults("p(1):-1==2.", 1, 8);
        CHECK.faults("p(1):-1=<2.", 1, 8);
    }

    private static void heads() {
        CHECK.faults("P(1).", 1, 0);
        CHECK.faults("1(1).", 1, 0);
        CHECK.faults(".", 1, 0);
        CHECK.faults("!p(1).", 1, 0);
        CHECK.faults("is(1).", 1, 0);
        CHECK.faults("count(1).", 1, 0);
        CHECK.faults("sum(1).", 1, 0);
        CHECK.faults("least(1).", 1, 0);
        CHECK.faults("most(1).", 1, 0);
        CHECK.faults("p.", 1, 1);
        CHECK.faults("p().", 1, 2);
        CHECK.faults("p(is).", 1, 2);
        CHECK.faults("p(_).", 1, 2);
        CHECK.faults("p(_):-q(1).", 1, 2);
        CHECK.faults("p(-a).", 1, 3);
        CHECK.faults("p(--1).", 1, 3);
        CHECK.faults("p(+1).", 1, 2);
        CHECK.faults("p(1,).", 1, 4);
        CHECK.faults("p(1 2).", 1, 4);
        CHECK.faults("p(1.", 1, 3);
        CHECK.faults("p(1),", 1, 4);
        CHECK.faults("p(1)..", 1, 5);
        CHECK.faults("p(1)q(1).", 1, 4);
        CHECK.faults("p(1).1", 1, 5);
        CHECK.faults("p(count X):-q(X).", 1, 8);
        CHECK.faults("p(count(1)):-q(X).", 1, 8);
        CHECK.faults("p(count(_)):-q(X).", 1, 8);
        CHECK.faults("p(count()):-q(X).", 1, 8);
        CHECK.faults("p(count(-1)):-q(X).", 1, 8);
        CHECK.faults("p(count(x)):-q(X).", 1, 8);
        CHECK.faults("p(count(X,Y)):-q(X).", 1, 9);
        CHECK.faults("p(-count(X)):-q(X).", 1, 3);
        CHECK.faults("p(count(X),sum(Y)):-q(X,Y).", 1, 11);
        CHECK.faults("p(count(X),count(X)):-q(X).", 1, 11);
    }

    private static void bodies() {
        CHECK.faults("p(1):-.", 1, 6);
        CHECK.faults("p(1):-,q(1).", 1, 6);
        CHECK.faults("p(1):-q(1),.", 1, 11);
        CHECK.faults("p(1):-q(1)r(1).", 1, 10);
        CHECK.faults("p(1):-q.", 1, 7);
        CHECK.faults("p(1):-q is 1+2.", 1, 8);
        CHECK.faults("p(1):-1 is 1+2.", 1, 8);
        CHECK.faults("p(1):-X(1).", 1, 7);
        CHECK.faults("p(1):-!!q(1).", 1, 7);
        CHECK.faults("p(1):-!X=1.", 1, 7);
        CHECK.faults("p(1):-!q=1.", 1, 8);
        CHECK.faults("p(1):-!=1.", 1, 6);
        CHECK.faults("p(1):-_=1.", 1, 6);
        CHECK.faults("p(1):-1=_.", 1, 8);
        CHECK.faults("p(1):-1+2=3.", 1, 7);
        CHECK.faults("p(1):-X=1+2.", 1, 9);
        CHECK.faults("p(1):-X is 1.", 1, 12);
        CHECK.faults("p(1):-X is 1=2.", 1, 12);
        CHECK.faults("p(1):-X is 1+2+3.", 1, 14);
        CHECK.faults("p(1):-X is +1.", 1, 11);
        CHECK.faults("p(1):-X is _+1.", 1, 11);
        CHECK.faults("p(1):-X is1+2.", 1, 8);
        CHECK.faults("p(1):-count(X).", 1, 6);
        CHECK.faults("p(1):-!sum(X).", 1, 7);
        CHECK.faults("p(1):-most=1.", 1, 6);
        CHECK.faults("p(1):-q(count(X)).", 1, 8);
        CHECK.faults("p(1):-q(is).", 1, 8);
        CHECK.faults("p(1):-q().", 1, 8);
        CHECK.faults("p(1):-q(1):-r(1).", 1, 10);
        CHECK.faults("p(1):-q(1)?", 1, 10);
        CHECK.faults("p(count(X)):-q(X,_).", 1, 17);
        CHECK.faults("p(count(X)):-!q(X,_),q(_,X).", 1, 23);
    }

    private static void endsTooEarly() {
        String whole = "p(count(X),-1):-q(X,-2),!r(X,_),Y is X+1,Y!=a.";
        for (int length = 1; length < whole.length(); length++) {
            String part = whole.substring(0, length);
            // Cut inside :- and is and != the last character is a TOKEN that can't stand there.
            boolean cutsToken = part.endsWith(":") || part.endsWith(" i") || part.endsWith("Y!");
            CHECK.faults(part, 1, cutsToken ? length - 1 : length);
            CHECK.faults(part + "  ", 1, cutsToken ? length - 1 : length + 2);
        }
        CHECK.reads(whole, 1);
    }

    private static void limits() {
        CHECK.faults("p(1,2,3,4,5).", 1, 10);
        CHECK.faults("p(1,2,3,4,-5).", 1, 10);
        CHECK.faults("p(1,2,3,4,", 1, 10);
        CHECK.faults("p(1):-q(1,2,3,4, _).", 1, 17);
        CHECK.faults("p(1,2,3,4,count(X)):-q(X).", 1, 10);
        CHECK.faults("p(1):-1=1,1=1,1=1,1=1,1=1,1=1, -1=1.", 1, 31);
        CHECK.faults("p(1):-1=1,1=1,1=1,1=1,1=1,1=1,", 1, 30);
        CHECK.faults("p(1):-1=1,1=1,1=1,1=1,1=1,1=1,!q(1).", 1, 30);
        CHECK.faults("p(1):-q(1),q(1),!q(1),q(1),1=1,q(1).", 1, 31);
        CHECK.faults("p(1):-q(1),q(1),q(1),q(", 1, 21);
        CHECK.faults("p(1):-q(1),q(1),q(1),q$", 1, 22);
        CHECK.reads("p(1):-q(1),q(1),q(1),q=1,!q(1).", 1);
        CHECK.faults(Check.times(31, "a(1):-1=1."), 1, 300);
        CHECK.faults(Check.times(30, "a(1):-1=1.") + " a(1) . b(X):-$", 1, 308);
        CHECK.faults(Check.times(30, "a(1):-1=1.") + "a(X) $", 1, 305);
        CHECK.faults("p(1):-q(A,B,C,D),r(E,F,G,H),A<I.", 1, 30);
        CHECK.faults("p(I):-q(A,B,C,D),r(E,F,G,I),A<H.", 1, 30);
        CHECK.reads("p(1):-q(A,B,C,D),r(E,F,G,H).p(I):-q(I,J,K,L),r(M,N,O,P).", 2);
        CHECK.faults(SIXTEEN + "q(1).", 1, 80);
        CHECK.faults(SIXTEEN + "p(1):-p(1), q(1).", 1, 92);
        CHECK.faults(SIXTEEN + "p(1):-p(1), !q(1).", 1, 93);
        CHECK.reads(SIXTEEN + "p(q):-p(r),s=t,!a(u).", 1);
        CHECK.faults(SIXTEEN + "p(1):-q$", 1, 87);
    }

    private static void facts() {
        CHECK.faults("p(X).", 1, 2);
        CHECK.faults("p(1,-2,X).", 1, 7);
        CHECK.faults("p(X,Y).$", 1, 2);
        CHECK.faults("p(X)$.", 1, 4);
        CHECK.faults("p(X,$).", 1, 4);
        CHECK.faults("p(count(X)).", 1, 2);
        CHECK.faults("p(1,most(X)).", 1, 4);
        CHECK.faults("p(X,count(X)).", 1, 2);
        CHECK.faults("p(count(X),X).", 1, 2);
        CHECK.faults("p(count(X),sum(Y)).", 1, 11);
        CHECK.faults("p(X,1,2,3,4).", 1, 10);
    }

    private static void numbersOfArguments() {
        CHECK.faults("p(1).q(1).p(1,2).q(1,2).", 2, 10);
        CHECK.faults("p(X):-p(X,X).", 2, 6);
        CHECK.faults("p(X):-q(X), ! q(X,_).", 2, 14);
        CHECK.faults("p(X,Y):-q(X,Y).p(count(X)):-r(X).", 2, 15);
        CHECK.faults("p(1,2).p(1).p(1,2).", 2, 7);
        CHECK.reads("p(count(X),Y):-q(X,Y).p(1,2).", 1);
        CHECK.reads("p(p):-q(p).", 1);
    }

    private static void unbound() {
        CHECK.faults("p(X):-q(Y).", 3, 2);
        CHECK.faults("p(1):-q(Y),!r(X,Y).", 3, 14);
        CHECK.faults("p(1):-q(Y),Y<X.", 3, 13);
        CHECK.faults("p(1):-q(_),!r(Z),Z=Z.", 3, 14);
        CHECK.faults("p(1):-X=Y,Y=X.", 3, 6);
        CHECK.faults("p(X):-X is X+1.", 3, 2);
        CHECK.faults("p(1):-X is Y+1,Y is X+1.", 3, 6);
        CHECK.faults("p(1):-X is 1+Y,Z is X+1,q(A).", 3, 6);
        CHECK.faults("p(count(X)):-q(Y).", 3, 8);
        CHECK.faults("p(X,Y,Z):-q(X,Z),X!=Y.", 3, 4);
        CHECK.faults("p(X):-X!=1.", 3, 2);
        CHECK.faults("p(X):-X<=1,X>=1.", 3, 2);
        CHECK.faults("p(X):-q(X).p(Y):-q(1).", 3, 13);
        CHECK.reads("p(X):-X is Y*Y,Y=Z,W=Z,W is 1+a.", 1);
        CHECK.reads("p(X):-a=X.", 1);
    }

    private static void knots() {
        CHECK.faults("p(X):-q(X),!p(X).", 4, 11);
        CHECK.faults("p(1): -q(1).", 1, 4);
        CHECK.faults("p(1):-!q(1).q(1):-!r(1).r(1):-p(1).", 4, 6);
        CHECK.faults("p(1):-q(1).q(1):-!r(1).r(1):-!p(1).", 4, 17);
        CHECK.faults("p(1):-q(1),!r(1),!q(1).q(1):-p(1).", 4, 17);
        CHECK.faults("p(1,count(X)):-q(X).q(X):-p(X,_).", 4, 4);
        CHECK.faults("p(sum(X)):-r(X),!q(X).q(X):-p(X).", 4, 2);
        CHECK.faults("p(sum(X)):-r(X),!p(X).", 4, 2);
        CHECK.reads("p(X):-q(X),!r(X).r(X):-q(X),r(X).", 2);
        CHECK.reads("p(count(X)):-q(X).q(X):-q(X).", 2);
        CHECK.reads("p(1):-p(1).p(1):-!q(1).", 2);
    }

    private static void whichIsFirst() {
        CHECK.faults("p(X):-q(Y).p(1,2).$", 1, 18);
        CHECK.faults("p(1).p(1,2).r(X).", 1, 14);
        CHECK.faults("p(X):-q(Y).p(1,2).", 3, 2);
        CHECK.faults("p(1).p(1,2).p(X):-q(Y).", 2, 5);
        CHECK.faults("p(1,X):-q(1),p(X).", 2, 13);
        CHECK.faults("p(1,X):-p(1).", 3, 4);
        CHECK.faults("p(1):-!p(1).q(1).q(1,2).", 2, 17);
        CHECK.faults("p(1):-!p(1).q(X):-r(1).", 3, 14);
        CHECK.faults("p(1):-!p(1)", 1, 11);
    }
}
