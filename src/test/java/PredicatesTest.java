/** Promise 5. */
public final class PredicatesTest {
    public static void main(String[] args) {
        Check check = new Check("PredicatesTest");
        String[] texts = {"", "p(1).", "p(1).p(2).", "p(a).a(p).", "p(X):-q(X),!r(X),s=t.",
            "p(1):-a=b.", "p(1):-p(1).", "p(count(X)):-q(X).r(1).q(1).", "ab(1).a(1).b(1).ab1(1)."};
        int[] due = {0, 1, 1, 2, 3, 1, 1, 3, 4};
        PlanDesk desk = new PlanDesk();
        for (int i = 0; i < texts.length; i++) {
            Check.type(desk, texts[i]);
            Check.program(desk);
            check.due("predicates() of " + texts[i], due[i], desk.predicates());
        }
        StringBuilder sixteen = new StringBuilder();
        for (char name = 'a'; name < 'q'; name++) {
            sixteen.append(name).append("(1).");
        }
        check.due("sixteen", 16, Check.desk(sixteen.toString()).predicates());
        check.end();
    }
}
