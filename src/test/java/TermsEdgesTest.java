/**
 * The boundaries that the document names ahead of its promises: one method for each sentence,
 * which stands above it.
 */
public final class TermsEdgesTest {
    private static final Check CHECK = new Check("TermsEdgesTest");
    private static final String FIFTEEN = Check.FIFTEEN;
    private static final String SIXTEEN = Check.SIXTEEN;
    private static final String RULE = "a(1):-1=1.";

    public static void main(String[] args) {
        tapeLength();
        tapeCharacters();
        blanksPartTokens();
        asLongAsItGoesOn();
        names();
        variables();
        numbers();
        signs();
        words();
        values();
        terms();
        argumentsOfAtoms();
        anything();
        anythingBesideATotal();
        relations();
        operations();
        literalsOfABody();
        atomsOfABody();
        argumentsOfHeads();
        totals();
        totalsWithoutABody();
        factsWithoutVariables();
        thirtyRules();
        sixteenPredicates();
        eightVariables();
        CHECK.end();
    }

    /** THE TAPE has at most 600 characters. */
    private static void tapeLength() {
        CHECK.reads(Check.times(595, " ") + "p(1).", 0);
        CHECK.faults(Check.times(600, " ").substring(1) + "p", 1, 600);
        CHECK.faults(Check.times(599, " ") + "$", 1, 599);
        PlanDesk desk = new PlanDesk();
        CHECK.due("600 are typed", true, Check.type(desk, Check.times(600, " ")));
        CHECK.due("a 601st is not", false, desk.type(' ', 1));
        CHECK.due("600 blanks are a PROGRAM", 0, Check.program(desk));
    }

    /** .. 32 .. 126: each can be typed, though not each begins a TOKEN. */
    private static void tapeCharacters() {
        for (int c = 32; c <= 126; c++) {
            PlanDesk desk = new PlanDesk();
            CHECK.due("type(" + c + ", 1)", true, desk.type(c, 1));
            int due = c == ' ' ? 0 : Check.THREW;
            CHECK.due("program of character " + c, due, Check.program(desk));
            boolean small = c >= 'a' && c <= 'z';
            CHECK.due("fault(1) of character " + c, small ? 1 : 0, desk.fault(1));
        }
    }

    /** BLANKS part TOKENS: none is needed, any number may stand, none goes inside a TOKEN. */
    private static void blanksPartTokens() {
        CHECK.reads("p(X):-q(X),Y is X+1,Y<=2,!r(-1).", 1);
        CHECK.reads("   p  (  X  )  :-  q  (  X  )  ,  Y  is  X  +  1  ,  Y  <=  2  ,"
                + "  !  r  (  -  1  )  .   ", 1);
        CHECK.faults("p p(1).", 1, 2);
        CHECK.faults("p(1 1).", 1, 4);
        CHECK.faults("p(X):-q(X Y).", 1, 10);
        CHECK.faults("p(1):-q(1),1< =2.", 1, 14);
        CHECK.faults("p(1):-q(1),1> =2.", 1, 14);
        CHECK.faults("p(1):-q(1),1! =2.", 1, 12);
        CHECK.faults("p(1): -q(1).", 1, 4);
        CHECK.faults("p(X):-X i s 1+1.", 1, 8);
        CHECK.faults("p(c ount(X)):-q(X).", 1, 4);
        PlanDesk desk = Check.desk("ab(1).");
        CHECK.due("letters without a blank are one NAME", 2, desk.predicate(0, 4));
    }

    /** Each as long as what stands there goes on (longer ones than told are none). */
    private static void asLongAsItGoesOn() {
        CHECK.faults("p(abcdefghijkl).", 1, 2);
        CHECK.faults("p(abcdef1).", 1, 2);
        CHECK.faults("p(abcdefG).", 1, 8);
        CHECK.faults("p(Xabcdefghijk):-q(1).", 1, 2);
        CHECK.faults("p(12345678901234567890).", 1, 2);
        CHECK.faults("p(123456789a).", 1, 11);
        CHECK.faults("p(abcdef abcdefg).", 1, 9);
        CHECK.reads("p(X):-q(X),X<-1,X>-1,X=-1,X!=-1,X<=-1.", 1);
        CHECK.reads("p(1):--1=-1.", 1);
        CHECK.faults("p(1):-1<==1.", 1, 9);
        CHECK.faults("p(1):-1<<1.", 1, 8);
        CHECK.faults("p(1):-1<>1.", 1, 8);
        CHECK.faults("p(1):-1!<1.", 1, 7);
        CHECK.faults("p(1)::-q(1).", 1, 4);
        CHECK.faults("p(1):=q(1).", 1, 4);
        CHECK.faults("p(1):", 1, 4);
    }

    /** NAMES (a small letter, then small letters or digits, at most 6). */
    private static void names() {
        CHECK.reads("a(z).a12345(z98765).azazaz(a0).", 0);
        CHECK.faults("a123456(1).", 1, 0);
        CHECK.faults("p(z987654).", 1, 2);
        CHECK.faults("p(1):-abcdefg(1).", 1, 6);
        CHECK.faults("p(1):-!abcdefg(1).", 1, 7);
        CHECK.faults("p(1):-1=abcdefg.", 1, 8);
        CHECK.faults("1a(1).", 1, 0);
        CHECK.faults("aB(1).", 1, 1);
        CHECK.faults("a_b(1).", 1, 1);
    }

    /** VARIABLES (a great letter, then letters or digits, at most 4). */
    private static void variables() {
        CHECK.reads("p(A,Z):-q(A,Z).r(Aa9Z):-s(Aa9Z).", 2);
        CHECK.faults("p(1):-q(Aa9Zz).", 1, 8);
        CHECK.faults("p(1):-q(ABCDE).", 1, 8);
        CHECK.faults("p(1):-q(A1234).", 1, 8);
        CHECK.faults("p(Abcde):-q(1).", 1, 2);
        CHECK.faults("p(1):-1<Abcde.", 1, 8);
        CHECK.faults("p(count(Abcde)):-q(X).", 1, 8);
        CHECK.faults("p(A_):-q(A_).", 1, 3);
        PlanDesk desk = Check.desk("p(1):-q(X,x),r(Xx,XX),s(X1,X).");
        CHECK.due("X, Xx, XX, X1 are four", 4, Check.rule(desk, 0, 2));
    }

    /** NUMBERS (1 to 9 digits). */
    private static void numbers() {
        CHECK.reads("p(0,9,000000000,999999999).", 0);
        CHECK.reads("p(-0,-9,-000000000,-999999999).", 0);
        CHECK.faults("p(0000000000).", 1, 2);
        CHECK.faults("p(1000000000).", 1, 2);
        CHECK.faults("p(-1000000000).", 1, 3);
        CHECK.faults("p(1):-X is 1+1000000000.", 1, 13);
        PlanDesk desk = Check.desk("p(999999999).p(999999998).p(-999999999).p(000000001).p(1).");
        CHECK.due("their FACTS", 4, desk.predicate(0, 3));
    }

    /** SIGNS ( ) , . ? ! _ :- = != < <= > >= + - * / %: the others are none. */
    private static void signs() {
        String none = "\"#$&';:@[\\]^`{|}~";
        for (int i = 0; i < none.length(); i++) {
            char c = none.charAt(i);
            CHECK.faults("" + c, 1, 0);
            CHECK.faults("p(1)" + c + ".", 1, 4);
            CHECK.faults("p(1):-1" + c + "2.", 1, 7);
            CHECK.faults("p(1):-X is 1" + c + "2.", 1, 12);
        }
        CHECK.faults("?", 1, 0);
        CHECK.faults("?p(1).", 1, 0);
        CHECK.faults("p(1)?", 1, 4);
        CHECK.faults("p(?).", 1, 2);
        CHECK.faults("p(1):-q(1)?", 1, 10);
    }

    /** The NAMES is, count, sum, least, most are WORDS, and name nothing else. */
    private static void words() {
        for (String word : new String[] {"is", "count", "sum", "least", "most"}) {
            int behind = word.length();
            CHECK.faults(word + "(1).", 1, 0);
            // In a HEAD a TOTAL's WORD can stand; what it lacks is the ( behind it.
            CHECK.faults("p(" + word + ").", 1, word.equals("is") ? 2 : 2 + behind);
            CHECK.faults("p(1):-" + word + "(1).", 1, 6);
            CHECK.faults("p(1):-!" + word + "(1).", 1, 7);
            CHECK.faults("p(1):-q(" + word + ").", 1, 8);
            CHECK.faults("p(1):-!q(" + word + ").", 1, 9);
            CHECK.faults("p(1):-" + word + "=1.", 1, 6);
            CHECK.faults("p(1):-1=" + word + ".", 1, 8);
            CHECK.faults("p(1):-X is " + word + "+1.", 1, 11);
            CHECK.faults("p(1):-X is 1+" + word + ".", 1, 13);
            String shorter = word.substring(0, behind - 1);
            CHECK.reads(shorter + "(" + shorter + "1).", 0);
            CHECK.reads("z" + word.substring(1) + "(z" + word.substring(1) + ").", 0);
            CHECK.reads(shorter + "z(" + shorter + "z).", 0);
            CHECK.reads(word + "s(" + word + "1):-" + word + "s(" + word + "0).", 1);
        }
    }

    /** VALUES: numbers (ints) and SYMBOLS (NAMES). */
    private static void values() {
        PlanDesk desk = Check.desk("p(0).p(-0).p(00).p(7).p(07).p(-7).p(- 07).p(a).p(a0).p(a00).p(p).");
        CHECK.due("different VALUES", 7, desk.predicate(0, 3));
        PlanDesk great = Check.desk("p(999999999).p(zzzzzz).p(a).p(-999999999).p(z99999).p(azzzzz).");
        CHECK.due("the greatest ones", 6, great.predicate(0, 3));
    }

    /** A TERM: NUMBER, - NUMBER, NAME or VARIABLE. */
    private static void terms() {
        CHECK.reads("p(1,-1,a,X):-X=1.", 1);
        CHECK.faults("p(-a).", 1, 3);
        CHECK.faults("p(-X):-q(X).", 1, 3);
        CHECK.faults("p(-).", 1, 3);
        CHECK.faults("p(- -1).", 1, 4);
        CHECK.faults("p(-_).", 1, 3);
        CHECK.faults("p(1-1).", 1, 3);
        CHECK.faults("p(1):-q(-X).", 1, 9);
        CHECK.faults("p(1):-X=-X.", 1, 9);
        CHECK.faults("p(1):--X=1.", 1, 7);
        CHECK.faults("p(a(1)).", 1, 3);
        CHECK.faults("p(1):-q(a(1)).", 1, 9);
        CHECK.faults("p((1)).", 1, 2);
        CHECK.faults("p(-", 1, 3);
    }

    /** ATOM: NAME ( ARGUMENT, .. ) with 1 to 4 ARGUMENTS; a fifth ARGUMENT: its first TOKEN. */
    private static void argumentsOfAtoms() {
        for (String sign : new String[] {"", "!"}) {
            String ahead = "p(1):-" + sign;
            int at = ahead.length();
            CHECK.faults(ahead + "q().", 1, at + 2);
            CHECK.reads(ahead + "q(1).", 1);
            CHECK.reads(ahead + "q(1,2,3,4).", 1);
            CHECK.faults(ahead + "q(1,2,3,4,5).", 1, at + 10);
            CHECK.faults(ahead + "q(1,2,3,4,  -5).", 1, at + 12);
            CHECK.faults(ahead + "q(1,2,3,4,_).", 1, at + 10);
            CHECK.faults(ahead + "q(1,2,3,4,X,$).", 1, at + 10);
            CHECK.faults(ahead + "q(1,2,3,4,).", 1, at + 10);
            CHECK.faults(ahead + "q(1,2,3,4 5).", 1, at + 10);
            CHECK.faults(ahead + "q(1,,2).", 1, at + 4);
            CHECK.faults(ahead + "q(,1).", 1, at + 2);
            CHECK.faults(ahead + "q 1).", 1, at + 2);
            CHECK.faults(ahead + "q(1.", 1, at + 3);
        }
    }

    /** ARGUMENTS: a TERM, or _: in an ATOM alone, and it is no VARIABLE. */
    private static void anything() {
        CHECK.reads("p(1):-q(_,_,_,_),!r(_,_,_,_).", 1);
        CHECK.faults("p(_).", 1, 2);
        CHECK.faults("p(1,_):-q(1).", 1, 4);
        CHECK.faults("p(count(_)):-q(1).", 1, 8);
        CHECK.faults("p(1):-_=1.", 1, 6);
        CHECK.faults("p(1):-1=_.", 1, 8);
        CHECK.faults("p(1):-_ is 1+1.", 1, 6);
        CHECK.faults("p(1):-X is _+1.", 1, 11);
        CHECK.faults("p(1):-X is 1+_.", 1, 13);
        CHECK.faults("p(1):-_(1).", 1, 6);
        CHECK.faults("p(1):-q(_X).", 1, 9);
        PlanDesk desk = Check.desk("p(1):-q(_,_,_,_),r(_,_,_,_),s(_,X),!t(_).");
        CHECK.due("_ is no VARIABLE", 1, Check.rule(desk, 0, 2));
    }

    /** _ (not in an ATOM without ! of a RULE with a TOTAL). */
    private static void anythingBesideATotal() {
        for (String total : new String[] {"count", "sum", "least", "most"}) {
            String ahead = "p(" + total + "(X)):-q(X)";
            int at = ahead.length();
            CHECK.faults(ahead + ",r(_).", 1, at + 3);
            CHECK.faults(ahead + ",r(X,1,_,_).", 1, at + 7);
            CHECK.reads(ahead + ",!r(_).", 1);
            CHECK.reads(ahead + ".r(1):-q(_).", 2);
            CHECK.faults(ahead + ",!r(_),r(_).", 1, at + 9);
        }
    }

    /** TERM = TERM, likewise with != < <= > >= . */
    private static void relations() {
        for (String sign : new String[] {"=", "!=", "<", "<=", ">", ">="}) {
            int behind = 7 + sign.length();
            CHECK.reads("p(1):-1" + sign + "2.", 1);
            CHECK.reads("p(1):-a" + sign + "-2.", 1);
            CHECK.reads("p(X):-q(X),X" + sign + "X.", 1);
            CHECK.faults("p(1):-" + sign + "1.", 1, 6);
            CHECK.faults("p(1):-1" + sign + ".", 1, behind);
            CHECK.faults("p(1):-1" + sign + "1" + sign + "1.", 1, behind + 1);
            CHECK.faults("p(1):-1" + sign + "q(1).", 1, behind + 1);
            CHECK.faults("p(1):-q(1)" + sign + "1.", 1, 10);
            CHECK.faults("p(1):-!1" + sign + "1.", 1, 7);
        }
        CHECK.faults("p(1):-1.", 1, 7);
        CHECK.faults("p(1):-X,q(X).", 1, 7);
        CHECK.faults("p(1):-a.", 1, 7);
    }

    /** VARIABLE is TERM + TERM, likewise with - * / % . */
    private static void operations() {
        for (String sign : new String[] {"+", "-", "*", "/", "%"}) {
            CHECK.reads("p(1):-X is 1" + sign + "2.", 1);
            CHECK.reads("p(1):-X is -1" + sign + "-2.", 1);
            CHECK.reads("p(1):-X is a" + sign + "b.", 1);
            CHECK.reads("p(1):-X is 1" + sign + "0.", 1);
            CHECK.faults("p(1):-X is 1" + sign + ".", 1, 13);
            CHECK.faults("p(1):-X is 1" + sign + "2" + sign + "3.", 1, 14);
            CHECK.faults("p(1):-X" + sign + "1=2.", 1, 7);
            CHECK.faults("p(1):-X=1" + sign + "1.", 1, 9);
        }
        CHECK.faults("p(1):-X is 1.", 1, 12);
        CHECK.faults("p(1):-X is 1,q(1).", 1, 12);
        CHECK.faults("p(1):-X is 1 2.", 1, 13);
        CHECK.faults("p(1):-X is.", 1, 10);
        CHECK.faults("p(1):-x is 1+2.", 1, 8);
        CHECK.faults("p(1):-1 is 1+2.", 1, 8);
        CHECK.faults("p(1):--1 is 1+2.", 1, 9);
        CHECK.faults("p(1):-!X is 1+2.", 1, 7);
        CHECK.faults("p(1):-X is *1+2.", 1, 11);
    }

    /** BODY: 1 to 6 LITERALS, parted by commas; a seventh LITERAL: its first TOKEN. */
    private static void literalsOfABody() {
        CHECK.faults("p(1):-.", 1, 6);
        CHECK.faults("p(1):-  .", 1, 8);
        CHECK.reads("p(1):-1=1.", 1);
        String six = "p(1):-" + Check.times(5, "1=1,") + "1=1";
        int at = six.length() + 1;
        CHECK.reads(six + ".", 1);
        CHECK.faults(six + ",1=1.", 1, at);
        CHECK.faults(six + ",  -1=1.", 1, at + 2);
        CHECK.faults(six + ",q(1).", 1, at);
        CHECK.faults(six + ",!q(1).", 1, at);
        CHECK.faults(six + ",X is 1+1.", 1, at);
        CHECK.faults(six + ",1=$", 1, at);
        CHECK.faults(six + ",.", 1, at);
        CHECK.faults(six + " 1=1.", 1, at);
        CHECK.faults("p(1):-" + Check.times(6, "!q(1),") + "!q(1).", 1, 42);
        CHECK.reads("p(1):-" + Check.times(5, "!q(1),") + "!q(1).", 1);
        CHECK.reads("p(1):-" + Check.times(5, "X is 1+1,") + "X is 1+1.", 1);
        CHECK.faults("p(1):-1=1,,1=1.", 1, 10);
        CHECK.faults("p(1):-1=1;1=1.", 1, 9);
    }

    /** At most 3 of them ATOMS without !; a fourth such ATOM: its first TOKEN. */
    private static void atomsOfABody() {
        CHECK.reads("p(1):-q(1),q(1),q(1).", 1);
        CHECK.faults("p(1):-q(1),q(1),q(1),q(1).", 1, 21);
        CHECK.faults("p(1):-q(1),q(1),q(1),  q(1).", 1, 23);
        CHECK.faults("p(1):-q(1),q(1),q(1),q($", 1, 21);
        CHECK.faults("p(1):-q(1),q(1),q(1),q (", 1, 21);
        CHECK.faults("p(1):-q(1),!q(1),q(1),1=1,q(1),q(1).", 1, 31);
        CHECK.reads("p(1):-q(1),q(1),q(1),!q(1),!q(1),!q(1).", 1);
        CHECK.reads("p(1):-q(1),q(1),q(1),q=q,q!=q,X is q+q.", 1);
        CHECK.reads("p(1):-q(1),q(1),q(1).p(1):-q(1),q(1),q(1).", 2);
        CHECK.faults("p(1):-q(1),q(1),q(1),q", 1, 22);
        CHECK.faults("p(1):-q(1),q(1),q(1),q.", 1, 22);
    }

    /** HEAD: NAME ( TERM, .. ) with 1 to 4. */
    private static void argumentsOfHeads() {
        CHECK.faults("p().", 1, 2);
        CHECK.faults("p():-q(1).", 1, 2);
        CHECK.faults("p.", 1, 1);
        CHECK.faults("p:-q(1).", 1, 1);
        CHECK.reads("p(1).", 0);
        CHECK.reads("p(1,2,3,4).", 0);
        CHECK.reads("p(1,2,3,count(X)):-q(X).", 1);
        CHECK.faults("p(1,2,3,4,5).", 1, 10);
        CHECK.faults("p(1,2,3,4,  -5):-q(1).", 1, 12);
        CHECK.faults("p(1,2,3,4,X).", 1, 10);
        CHECK.faults("p(1,2,3,4,count(X)):-q(X).", 1, 10);
        CHECK.faults("p(1,2,3,4,$", 1, 10);
        CHECK.faults("p(1,2,3,4", 1, 9);
        CHECK.faults("p(1,2,3,4,", 1, 10);
    }

    /** With a BODY one of them may be a TOTAL: count ( VARIABLE ), ..; a second TOTAL. */
    private static void totals() {
        for (String total : new String[] {"count", "sum", "least", "most"}) {
            int at = 2 + total.length();
            CHECK.reads("p(" + total + "(X)):-q(X).", 1);
            CHECK.reads("p(X,1,a," + total + "(X)):-q(X).", 1);
            CHECK.faults("p(" + total + "):-q(X).", 1, at);
            CHECK.faults("p(" + total + "()):-q(X).", 1, at + 1);
            CHECK.faults("p(" + total + "(1)):-q(X).", 1, at + 1);
            CHECK.faults("p(" + total + "(a)):-q(X).", 1, at + 1);
            CHECK.faults("p(" + total + "(-X)):-q(X).", 1, at + 1);
            CHECK.faults("p(" + total + "(X,X)):-q(X).", 1, at + 2);
            CHECK.faults("p(" + total + "(count(X))):-q(X).", 1, at + 1);
            CHECK.faults("p(" + total + "(X)," + total + "(X)):-q(X).", 1, at + 4);
            CHECK.faults("p(" + total + "(X),1,  most(Y)):-q(X,Y).", 1, at + 8);
            CHECK.faults("p(1):-q(" + total + "(X)).", 1, 8);
        }
        CHECK.reads("p(count(X)):-q(X).r(sum(X)):-q(X).", 2);
    }

    /** .. with a BODY: a FACT's TOTAL is a FAULT 1, at its first TOKEN. */
    private static void totalsWithoutABody() {
        CHECK.faults("p(count(X)).", 1, 2);
        CHECK.faults("p(  sum(X)).", 1, 4);
        CHECK.faults("p(1,2,3,least(X)).", 1, 8);
        CHECK.faults("p(most(X),X).", 1, 2);
        CHECK.faults("p(X,most(X)).", 1, 2);
        CHECK.faults("p(count(X)).$", 1, 2);
        CHECK.faults("p(count(X))$", 1, 11);
        CHECK.faults("p(count(X))", 1, 11);
    }

    /** A CLAUSE without a BODY has no VARIABLES: it is a FACT; others are RULES. */
    private static void factsWithoutVariables() {
        CHECK.reads("p(1).p(-1).p(a).", 0);
        CHECK.reads("p(1):-1=1.", 1);
        CHECK.faults("p(X).", 1, 2);
        CHECK.faults("p(1,2,3,X).", 1, 8);
        CHECK.faults("p(1,X,Y,X).", 1, 4);
        CHECK.faults("p(1).q(a,X).", 1, 9);
    }

    /** At most 30 RULES; a 31st RULE: its first TOKEN. */
    private static void thirtyRules() {
        String thirty = Check.times(30, RULE);
        CHECK.reads(Check.times(29, RULE), 29);
        CHECK.reads(thirty, 30);
        CHECK.faults(thirty + RULE, 1, 300);
        CHECK.faults(thirty + "   " + RULE, 1, 303);
        CHECK.faults(thirty + "b(X):-c(Y,$", 1, 300);
        CHECK.faults(thirty + RULE + RULE, 1, 300);
        CHECK.reads(thirty + Check.times(60, "a(2)."), 30);
        CHECK.reads(Check.times(60, "a(2).") + thirty, 30);
        CHECK.faults(thirty + "a(2)." + RULE, 1, 305);
        CHECK.faults(thirty + "a(X).", 1, 302);
    }

    /** At most 16 predicates (by their NAMES); a 17th predicate: its first TOKEN. */
    private static void sixteenPredicates() {
        CHECK.reads(SIXTEEN, 0);
        CHECK.faults(SIXTEEN + "q(1).", 1, 80);
        CHECK.faults(SIXTEEN + "  q(1).", 1, 82);
        CHECK.faults(SIXTEEN + "q(X):-a(Y,$", 1, 80);
        CHECK.reads(FIFTEEN + "a(1):-p(1).", 1);
        CHECK.reads(FIFTEEN + "a(1):-!p(1).", 1);
        CHECK.faults(SIXTEEN + "a(1):-q(1).", 1, 86);
        CHECK.faults(SIXTEEN + "a(1):-!q(1).", 1, 87);
        CHECK.faults(FIFTEEN + "a(1):-p(1),q(1).", 1, 86);
        CHECK.faults(FIFTEEN + "p(1):-q(1).", 1, 81);
        CHECK.reads(SIXTEEN + "p(q).p(X):-a(X),X!=r,!b(s).", 1);
        CHECK.faults(SIXTEEN + "a(1,2).", 2, 80);
        CHECK.reads(SIXTEEN + Check.times(100, "p(1)."), 0);
    }

    /** At most 8 VARIABLES in a RULE; a ninth one is a FAULT 1. */
    private static void eightVariables() {
        String eight = "p(A,B,C,D):-q(A,B,C,D),r(E,F,G,H)";
        int at = eight.length() + 1;
        CHECK.reads(eight + ".", 1);
        CHECK.reads(eight + ",A<H,!s(A,H),E is F+G.", 1);
        CHECK.faults(eight + ",s(I).", 1, at + 2);
        CHECK.faults(eight + ",s(A,_,1,I).", 1, at + 8);
        CHECK.faults(eight + ",!s(I).", 1, at + 3);
        CHECK.faults(eight + ",I=1.", 1, at);
        CHECK.faults(eight + ",1<I.", 1, at + 2);
        CHECK.faults(eight + ",I is 1+1.", 1, at);
        CHECK.faults(eight + ",A is I+1.", 1, at + 5);
        CHECK.faults(eight + ",A is 1+I.", 1, at + 7);
        CHECK.faults(eight + ",I=J.", 1, at);
        CHECK.reads(eight + ".p(I,J,K,L):-q(I,J,K,L),r(M,N,O,P).", 2);
        CHECK.faults("p(I,B,C,count(D)):-q(A,B,C,D),r(E,F,G,H).", 1, 38);
        PlanDesk desk = Check.desk(eight + ".");
        CHECK.due("VARIABLES", 8, Check.rule(desk, 0, 2));
    }
}
