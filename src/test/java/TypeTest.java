/** Promise 2. */
public final class TypeTest {
    private static final Check CHECK = new Check("TypeTest");

    public static void main(String[] args) {
        numbersOfBytes();
        bytes();
        aFullTape();
        order();
        CHECK.end();
    }

    private static void numbersOfBytes() {
        long word = Check.word("        ");
        for (int n = -2; n <= 20; n++) {
            CHECK.due("type(blanks, " + n + ")", n >= 1 && n <= 8, new PlanDesk().type(word, n));
        }
        PlanDesk desk = new PlanDesk();
        CHECK.due("type n least", false, desk.type(word, Integer.MIN_VALUE));
        CHECK.due("type n most", false, desk.type(word, Integer.MAX_VALUE));
    }

    private static void bytes() {
        for (int c = 0; c < 256; c++) {
            CHECK.due("type byte " + c, c >= 32 && c <= 126, new PlanDesk().type(c, 1));
            long word = (long) c << 56 | Check.word("       ");
            CHECK.due("type high byte " + c, c >= 32 && c <= 126, new PlanDesk().type(word, 8));
            CHECK.due("type unused byte " + c, true, new PlanDesk().type(word, 7));
        }
        PlanDesk desk = new PlanDesk();
        CHECK.due("the last byte is bad", false, desk.type(Check.word("p(1).\n"), 6));
        CHECK.due("the first byte is bad", false, desk.type(Check.word("\tp(1)."), 6));
        CHECK.due("nothing was typed", 0, Check.program(desk));
        CHECK.due("no predicates", 0, desk.predicates());
    }

    private static void aFullTape() {
        PlanDesk desk = new PlanDesk();
        CHECK.due("600 characters", true, Check.type(desk, Check.times(598, " ") + "p("));
        CHECK.due("one more", false, desk.type(' ', 1));
        CHECK.due("program()", Check.THREW, Check.program(desk));
        CHECK.due("fault(1) is the tape's length", 600, desk.fault(1));

        CHECK.due("597 characters", true, Check.type(desk, Check.times(597, " ")));
        CHECK.due("four more", false, desk.type(Check.word("p(1)"), 4));
        CHECK.due("three more", true, desk.type(Check.word("p(1"), 3));
        CHECK.due("program()", Check.THREW, Check.program(desk));
        CHECK.due("fault(1) with what was typed", 600, desk.fault(1));
        CHECK.due("the tape is empty again", true, desk.type(' ', 1));
        CHECK.due("program()", 0, Check.program(desk));
    }

    private static void order() {
        PlanDesk desk = new PlanDesk();
        CHECK.due("type 8", true, desk.type(Check.word("abc(1).d"), 8));
        CHECK.due("type 3 lowest of 8", true, desk.type(Check.word("####(2)."), 4));
        CHECK.due("program()", 0, Check.program(desk));
        CHECK.due("predicates()", 2, desk.predicates());
        CHECK.due("letter 0", 'a', desk.predicate(0, 100));
        CHECK.due("letter 2", 'c', desk.predicate(0, 102));
    }
}
