/**
 * What the document says of FAULTS and of BOUND: one method for each sentence, or part of one,
 * which stands above it.
 */
public final class FaultEdgesTest {
    private static final Check CHECK = new Check("FaultEdgesTest");
    private static final String SIXTEEN = Check.SIXTEEN;
    private static final String RULE = "a(1):-1=1.";

    /** One TOKEN of each sort, and some that are none. */
    private static final String[] TOKENS = {"a", "X", "1", "(", ")", ",", ".", "?", "!", "_", ":-",
        "=", "!=", "<", "<=", ">", ">=", "+", "-", "*", "/", "%", "is", "count", "sum", "least",
        "most", "$", ":", "abcdefg", "Abcde", "1234567890"};

    public static void main(String[] args) {
        whatCanStandWhere();
        thatIsNone();
        endsTooEarly();
        whichLimitIsFirst();
        factsAheadOfWhatIsBehind();
        firstOfKindOne();
        kindOneAheadOfAll();
        otherNumbersOfArguments();
        notBoundWhereFirst();
        twoAndThreeByPlace();
        fourOnlyAlone();
        throughThatLiteral();
        throughAnyAtomOfATotal();
        boundByAtoms();
        boundByIs();
        boundByEquals();
        boundAgainAndAgain();
        CHECK.end();
    }

    /** 1 the first TOKEN that can't stand there. */
    private static void whatCanStandWhere() {
        String term = "a X 1 -";
        String total = "count sum least most";
        String relation = "= != < <= > >=";
        stands("p(1).", "a");
        stands("p", "(");
        stands("p(", term + " " + total);
        stands("p(-", "1");
        stands("p(1", ", )");
        stands("p(-1", ", )");
        stands("p(a", ", )");
        stands("p(X", ", )");
        stands("p(1,", term + " " + total);
        stands("p(count", "(");
        stands("p(count(", "X");
        stands("p(count(X", ")");
        stands("p(count(X)", ", )");
        stands("p(count(X),", term);
        stands("p(1)", ". :-");
        stands("p(X):-", term + " !");
        stands("p(X):-q", "( " + relation);
        stands("p(X):-q(", term + " _");
        stands("p(X):-q(-", "1");
        stands("p(X):-q(_", ", )");
        stands("p(X):-q(X,", term + " _");
        stands("p(X):-q(X)", ", .");
        stands("p(X):-q(X),", term + " !");
        stands("p(X):-!", "a");
        stands("p(X):-!q", "(");
        stands("p(X):-!q(", term + " _");
        stands("p(X):-!q(_", ", )");
        stands("p(X):-!q(X)", ", .");
        stands("p(X):-1", relation);
        stands("p(X):--", "1");
        stands("p(X):--1", relation);
        stands("p(X):-X", relation + " is");
        stands("p(X):-X=", term);
        stands("p(X):-X<=-", "1");
        stands("p(X):-X=1", ", .");
        stands("p(X):-X is", term);
        stands("p(X):-X is 1", "+ - * / %");
        stands("p(X):-X is 1-", term);
        stands("p(X):-X is 1--", "1");
        stands("p(X):-X is 1+1", ", .");
        stands("p(count(X)):-q(", term);
        stands("p(count(X)):-!q(", term + " _");
    }

    private static void stands(String ahead, String allowed) {
        int place = ahead.length() + 1;
        for (String token : TOKENS) {
            String text = ahead + " " + token + " ";
            if ((" " + allowed + " ").contains(" " + token + " ")) {
                CHECK.faults(text + "$", 1, text.length());
            } else {
                CHECK.faults(text, 1, place);
                CHECK.faults(text + "a(X).", 1, place);
            }
        }
    }

    /** .. (or is none: its first character. */
    private static void thatIsNone() {
        String[] none = {"abcdefg", "abcdefghijklmnop", "Abcde", "ABCDEFGHIJKLM", "1234567890",
            "000000000000000", ":", ":=", "$", "$$$", "&(", "@1", "~a", "'a'", "\"a\"", "[", "{1}"};
        for (String text : none) {
            CHECK.faults(text, 1, 0);
            CHECK.faults("   " + text, 1, 3);
            CHECK.faults("p(1). " + text, 1, 6);
            CHECK.faults("p( " + text + ").", 1, 3);
            CHECK.faults("p(1):- " + text + ".", 1, 7);
            CHECK.faults("p(1):-q( " + text + ").", 1, 9);
            CHECK.faults("p(1):-!q(1, " + text + ").", 1, 12);
            CHECK.faults("p(1):-X is 1+ " + text + ".", 1, 14);
        }
    }

    /** .. the tape's length, if it ends too early. */
    private static void endsTooEarly() {
        String[] parts = {"p", "p(", "p(-", "p(1", "p(X", "p(1,", "p(count", "p(count(", "p(count(X",
            "p(count(X)", "p(1)", "p(X)", "p(1):-", "p(1):-a", "p(1):-1", "p(1):--", "p(1):-X",
            "p(1):-X is", "p(1):-X is 1", "p(1):-X is 1+", "p(1):-X is 1+1", "p(1):-1=", "p(1):-1=1",
            "p(1):-!", "p(1):-!q", "p(1):-!q(", "p(1):-!q(_", "p(1):-!q(_,", "p(1):-!q(_)",
            "p(1):-q(", "p(1):-q(1", "p(1):-q(1)", "p(1):-q(1),", "p(1).q", "p(1,2,3,4",
            "p(1,2,3,4,", "p(1):-1=1,1=1,1=1,1=1,1=1,1=1", "p(1):-1=1,1=1,1=1,1=1,1=1,1=1,"};
        for (String part : parts) {
            CHECK.faults(part, 1, part.length());
            CHECK.faults(part + " ", 1, part.length() + 1);
            CHECK.faults(Check.times(600 - part.length(), " ") + part, 1, 600);
            CHECK.faults(part + Check.times(600 - part.length(), " "), 1, 600);
        }
        CHECK.faults(Check.times(30, RULE) + "a(1)", 1, 304);
        CHECK.faults(Check.times(30, RULE) + "a(X", 1, 303);
    }

    /** A fifth ARGUMENT, seventh LITERAL, .. a 17th predicate: its first TOKEN. */
    private static void whichLimitIsFirst() {
        CHECK.faults("p(1,2,3,4,X).", 1, 10);
        CHECK.faults("p(X,2,3,4,5).", 1, 10);
        CHECK.faults("p(count(X),2,3,4,sum(X)):-q(X).", 1, 17);
        CHECK.faults("p(1):-q(A,B,C,D),r(E,F,G,H,I).", 1, 27);
        CHECK.faults("p(1):-q(A,B,C,D),r(E,F,G,H),s(I),t(1),u(1,2,3,4,5).", 1, 30);
        CHECK.faults("p(1):-q(1),q(1),q(1),q(1,2,3,4,5).", 1, 21);
        CHECK.faults("p(1):-q(1),q(1,2,3,4,5),q(1),q(1).", 1, 21);
        CHECK.faults("p(1):-q(1),q(1),q(1),1=1,1=1,1=1,q(1).", 1, 33);
        CHECK.faults("p(1):-q(1),q(1),q(1),1=1,1=1,q(1),1=1.", 1, 29);
        CHECK.faults(Check.times(30, RULE) + "a(1,2,3,4,5):-1=1.", 1, 310);
        CHECK.faults(Check.times(30, RULE) + "a(count(X),sum(Y)):-1=1.", 1, 311);
        CHECK.faults(Check.times(30, RULE) + "a(1,2,3,4):-q(1,2,3,4,5).", 1, 300);
        CHECK.faults(SIXTEEN + Check.times(30, RULE) + "q(1):-1=1.", 1, 380);
        CHECK.faults(SIXTEEN + Check.times(30, RULE) + "a(1):-q(1).", 1, 380);
        CHECK.faults(SIXTEEN + "a(1):-b(1),b(1),b(1),q(1).", 1, 101);
        CHECK.faults(SIXTEEN + "a(1):-q(1),b(1,2,3,4,5).", 1, 86);
        CHECK.faults(SIXTEEN + "q(X).", 1, 80);
    }

    /** A FACT's VARIABLE or TOTAL (ahead of what is behind its .). */
    private static void factsAheadOfWhatIsBehind() {
        String[] behind = {"$", "p(", "P(1).", ".", "p(Y).", "q(count(Z)).", Check.times(31, RULE)};
        for (String text : behind) {
            CHECK.faults("p(X)." + text, 1, 2);
            CHECK.faults("p(1,2,3,Y)." + text, 1, 8);
            CHECK.faults("p(1,least(X))." + text, 1, 4);
            CHECK.faults("p(a,X,most(X))." + text, 1, 4);
        }
        CHECK.faults("p(X) $.", 1, 5);
        CHECK.faults("p(X),", 1, 4);
        CHECK.faults("p(X,$).", 1, 4);
        CHECK.faults("p(X", 1, 3);
        CHECK.faults("p(X)", 1, 4);
        CHECK.faults("p(count(X),1", 1, 12);
    }

    /** The first one: later ones do not matter. */
    private static void firstOfKindOne() {
        CHECK.faults("$ $ $", 1, 0);
        CHECK.faults("p($,$).", 1, 2);
        CHECK.faults("p(1):-q(,).p(X).", 1, 8);
        CHECK.faults("p(1).p(X).p(Y).", 1, 7);
        CHECK.faults("p(1).P(1).p(1,2,3,4,5).", 1, 5);
    }

    /** Else: 2, 3 and 4 wait until there is none of 1. */
    private static void kindOneAheadOfAll() {
        CHECK.faults("p(1).p(1,2).$", 1, 12);
        CHECK.faults("p(X):-q(1).$", 1, 11);
        CHECK.faults("p(1):-!p(1).$", 1, 12);
        CHECK.faults("p(count(X)):-p(X).$", 1, 18);
        CHECK.faults("p(1).p(1,2)", 1, 11);
        CHECK.faults("p(X):-!q(X,Y),q(1),q(1,2),$", 1, 26);
        CHECK.faults("p(1).p(1,2).p(X):-q(1).r(1):-!r(1).s(T).", 1, 37);
    }

    /** 2 a NAME of an ATOM or HEAD with another number of ARGUMENTS than where it was first. */
    private static void otherNumbersOfArguments() {
        for (int first = 1; first <= 4; first++) {
            for (int second = 1; second <= 4; second++) {
                String one = "p(" + ones(first) + ")";
                String two = "p(" + ones(second) + ")";
                sizes(one + ".", two + ".", first == second, 0);
                sizes(one + ":-1=1.", two + ":-1=1.", first == second, 0);
                sizes("q(1):-" + one + ".", two + ".", first == second, 0);
                sizes("q(1):-" + one + ".", "q(1):-" + two + ".", first == second, 6);
                sizes("q(1):-!" + one + ".", "q(1):-!" + two + ".", first == second, 7);
                sizes("q(1):-" + one, ",!" + two + ".", first == second, 2);
                sizes(one + ".q(1):-1=1", "," + two + ".", first == second, 1);
            }
        }
        CHECK.faults("p(1).p(1,2).p(1,2).", 2, 5);
        CHECK.faults("p(1,2).p(1,2).p(1).", 2, 14);
        CHECK.faults("p(1).  p  (1,2).", 2, 7);
        CHECK.faults("p(1):-  !  p(1,2).", 2, 11);
        CHECK.faults("p(X,count(X)):-q(X).p(count(X)):-q(X).", 2, 20);
        CHECK.reads("p(p,q).q(p).", 0);
    }

    private static String ones(int count) {
        return Check.times(count - 1, "1,") + "1";
    }

    private static void sizes(String ahead, String behind, boolean same, int place) {
        PlanDesk desk = new PlanDesk();
        Check.type(desk, ahead + behind);
        CHECK.due("faulty " + ahead + behind, !same, Check.program(desk) == Check.THREW);
        CHECK.due("fault(0) of " + ahead + behind, same ? 0 : 2, desk.fault(0));
        CHECK.due("fault(1) of " + ahead + behind, same ? 0 : ahead.length() + place, desk.fault(1));
    }

    /** 3 a VARIABLE that is not BOUND, where it is first in its CLAUSE. */
    private static void notBoundWhereFirst() {
        CHECK.faults("p(X):-q(Y).", 3, 2);
        CHECK.faults("p(1,2,3,X):-q(Y).", 3, 8);
        CHECK.faults("p(count(X)):-q(Y).", 3, 8);
        CHECK.faults("p(1):-!q(X).", 3, 9);
        CHECK.faults("p(1):-1<X.", 3, 8);
        CHECK.faults("p(1):-q(Y),Y!=X,X!=Y.", 3, 14);
        CHECK.faults("p(Y):-q(Y),!r(X),X<Y,!s(X).", 3, 14);
        CHECK.faults("p(X):-q(Y),Y<X.", 3, 2);
        CHECK.faults("p(A,B,C):-q(A,C),!r(D).", 3, 4);
        CHECK.faults("p(A):-q(A),D<A,B<A.", 3, 11);
        CHECK.faults("p(X):-q(X).p(Y):-q(X).", 3, 13);
        CHECK.faults("p(X):-q(X).p(1):-1<X.", 3, 19);
        CHECK.faults("p(A,B,C,D):-q(A,B,C),r(E,F,G),D!=H.", 3, 8);
        CHECK.faults("p(1):-q(A,B,C,D),r(E,F,G),A!=H.", 3, 29);
    }

    /** The first one in the order of places: 2 .. 3 .. */
    private static void twoAndThreeByPlace() {
        CHECK.faults("p(X):-p(1,2).", 3, 2);
        CHECK.faults("p(1).p(X,Y):-q(1).", 2, 5);
        CHECK.faults("p(1):-p(1,2),X<1.", 2, 6);
        CHECK.faults("p(1):-X<1,p(1,2).", 3, 6);
        CHECK.faults("p(1):-!q(X),q(1,2).", 3, 9);
        CHECK.faults("p(1):-q(1,2),!q(X).", 2, 14);
        CHECK.faults("p(1):-q(1).q(1,2).p(X):-1=1.", 2, 11);
        CHECK.faults("p(1):-q(1).p(X):-1=1.q(1,2).", 3, 13);
    }

    /** 4 (if there is none of 2, 3). */
    private static void fourOnlyAlone() {
        CHECK.faults("p(1):-!p(1).", 4, 6);
        CHECK.faults("p(1):-!p(1).p(1,2).", 2, 12);
        CHECK.faults("p(1):-!p(1,2).", 2, 7);
        CHECK.faults("p(1):-!p(1).q(X):-1=1.", 3, 14);
        CHECK.faults("p(1):-!p(X).", 3, 9);
        CHECK.faults("p(count(X)):-p(Y).", 3, 8);
        CHECK.faults("p(count(X)):-p(X),p(X,X).", 2, 18);
    }

    /** The first ! in a RULE whose HEAD's predicate hangs on itself through that LITERAL. */
    private static void throughThatLiteral() {
        CHECK.faults("p(1):-q(1),  !p(1).", 4, 13);
        CHECK.faults("p(1):-!q(1).q(1):-p(1).", 4, 6);
        CHECK.faults("p(1):-q(1).q(1):-!p(1).", 4, 17);
        CHECK.faults("p(1):-!q(1).q(1):-!p(1).", 4, 6);
        CHECK.faults("p(1):-!q(1),!r(1).r(1):-s(1).s(1):-p(1).", 4, 12);
        CHECK.faults("p(1):-!q(1).r(1):-!r(1).", 4, 18);
        // p hangs on itself, yet not through its !
        CHECK.reads("p(1):-p(1),!q(1).", 1);
        CHECK.reads("p(1):-q(1),!r(1).q(1):-p(1),!r(1).r(1):-r(1).", 3);
        CHECK.reads("p(1):-!q(1).q(1):-!r(1).r(1):-!s(1).", 3);
        CHECK.reads("p(1):-!q(1).p(p):-q(p).", 2);
        // a FACT hangs on nothing
        CHECK.reads("p(1):-!q(1).q(p).", 1);
        StringBuilder round = new StringBuilder("a(1):-!b(1).");
        for (char name = 'b'; name < 'p'; name++) {
            round.append(name).append("(1):-").append((char) (name + 1)).append("(1).");
        }
        CHECK.reads(round.toString(), 15);
        CHECK.faults(round + "p(1):-a(1).", 4, 6);
    }

    /** The first TOTAL .. (of a TOTAL: through any ATOM of its BODY). */
    private static void throughAnyAtomOfATotal() {
        CHECK.faults("p(count(X)):-p(X).", 4, 2);
        CHECK.faults("p(1,a,  sum(X)):-p(X,X,X).", 4, 8);
        CHECK.faults("p(least(X)):-q(X),r(X),p(X).", 4, 2);
        CHECK.faults("p(most(X)):-q(X),!p(X).", 4, 2);
        CHECK.faults("p(count(X)):-q(X).q(X):-r(X).r(X):-p(X).", 4, 2);
        CHECK.faults("q(1):-!r(1).p(count(X)):-q(X),p(X).", 4, 14);
        CHECK.faults("q(1):-!q(1).p(count(X)):-p(X).", 4, 6);
        CHECK.faults("p(count(X)):-p(X).q(1):-!q(1).", 4, 2);
        CHECK.reads("p(count(X)):-q(X),!r(X).q(X):-q(X).", 2);
        CHECK.reads("p(count(X)):-q(X).p(X):-p(X).", 2);
    }

    /** BOUND are the VARIABLES of ATOMS without !. */
    private static void boundByAtoms() {
        CHECK.reads("p(A,B,C,D):-q(A,B,C,D).", 1);
        CHECK.reads("p(A,B,C):-!r(A,B,C),A<B,q(A),q(B),q(C).", 1);
        CHECK.faults("p(A,B):-q(A),!q(B).", 3, 4);
        CHECK.faults("p(A):-q(_).", 3, 2);
        CHECK.faults("p(A):-q(a).", 3, 2);
        CHECK.faults("p(A):-p(1).q(A):-p(A).", 3, 2);
    }

    /** That of is, if those behind it are. */
    private static void boundByIs() {
        CHECK.reads("p(X):-X is 1+2.", 1);
        CHECK.reads("p(X):-q(Y,Z),X is Y+Z.", 1);
        CHECK.faults("p(X):-q(Y),X is Y+Z.", 3, 2);
        CHECK.faults("p(X):-q(Z),X is Y+Z.", 3, 2);
        CHECK.faults("p(1):-q(X),X is Y+1.", 3, 16);
        CHECK.faults("p(1):-q(X),X is 1+Y.", 3, 18);
        CHECK.faults("p(X):-X is X+1.", 3, 2);
        CHECK.faults("p(X):-X is 1+X.", 3, 2);
        CHECK.reads("p(X):-X is X+X,q(X).", 1);
    }

    /** One side of =, if the other one is no VARIABLE, or is BOUND. */
    private static void boundByEquals() {
        CHECK.reads("p(X):-X=1.", 1);
        CHECK.reads("p(X):--1=X.", 1);
        CHECK.reads("p(X):-X=a.", 1);
        CHECK.reads("p(X):-q(Y),X=Y.", 1);
        CHECK.reads("p(X):-q(Y),Y=X.", 1);
        CHECK.faults("p(X):-X=Y.", 3, 2);
        CHECK.faults("p(X):-X=X.", 3, 2);
        CHECK.faults("p(X):-X=Y,Y=X.", 3, 2);
        for (String sign : new String[] {"!=", "<", "<=", ">", ">="}) {
            CHECK.faults("p(X):-X" + sign + "1.", 3, 2);
            CHECK.faults("p(X):-1" + sign + "X.", 3, 2);
            CHECK.faults("p(X):-q(Y),X" + sign + "Y.", 3, 2);
        }
    }

    /** Then, again and again. */
    private static void boundAgainAndAgain() {
        CHECK.reads("p(A):-A=B,B=C,C=D,D=E,E=F,F=1.", 1);
        CHECK.reads("p(A):-F=1,E=F,D=E,C=D,B=C,A=B.", 1);
        CHECK.reads("p(A):-A is B+C,B is C+D,C is D+E,D is E+F,E is F+1,F is 1+1.", 1);
        CHECK.faults("p(A):-A=B,B=C,C=D,D=E,E=F,F=G.", 3, 2);
        CHECK.faults("p(A):-A is B+C,B is C+D,C is D+E,D is E+F,E is F+1,F is 1+E.", 3, 2);
        CHECK.reads("p(A):-A is B+B,C=B,D is E+1,C=D,q(E).", 1);
    }
}
