/** Promise 1. */
public final class NewObjectTest {
    public static void main(String[] args) {
        Check check = new Check("NewObjectTest");
        PlanDesk desk = new PlanDesk();
        check.due("predicates()", 0, desk.predicates());
        check.due("fault(0)", 0, desk.fault(0));
        check.due("fault(1)", 0, desk.fault(1));
        check.due("fault(2)", PlanDesk.NONE, desk.fault(2));
        check.due("predicate(0, 0)", PlanDesk.NONE, desk.predicate(0, 0));
        check.due("hangs(0, 0)", false, desk.hangs(0, 0));
        check.due("rule(0, 0)", Check.THREW, Check.rule(desk, 0, 0));
        check.due("literal(0, 0, 0)", Check.THREW, Check.literal(desk, 0, 0, 0));
        check.due("program()", 0, Check.program(desk));
        check.due("NONE", -1, PlanDesk.NONE);

        PlanDesk other = Check.desk("p(1).q(X):-p(X).");
        check.due("another object's predicates()", 0, desk.predicates());
        check.due("its own predicates()", 2, other.predicates());
        check.end();
    }
}
