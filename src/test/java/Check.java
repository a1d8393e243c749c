import java.util.NoSuchElementException;

/** What the tests share: typing texts, asking, counting the answers that are not due. */
final class Check {
    /** As many predicates, a FACT each. */
    static final String FIFTEEN = "a(1).b(1).c(1).d(1).e(1).f(1).g(1).h(1)."
            + "i(1).j(1).k(1).l(1).m(1).n(1).o(1).";
    static final String SIXTEEN = FIFTEEN + "p(1).";

    private final String name;
    private int asked = 0;
    private int wrong = 0;

    Check(String name) {
        this.name = name;
    }

    static PlanDesk desk(String text) {
        PlanDesk desk = new PlanDesk();
        type(desk, text);
        desk.program();
        return desk;
    }

    static boolean type(PlanDesk desk, String text) {
        for (int from = 0; from < text.length(); from += 8) {
            int n = Math.min(8, text.length() - from);
            if (!desk.type(word(text.substring(from, from + n)), n)) {
                return false;
            }
        }
        return true;
    }

    static long word(String text) {
        long word = 0;
        for (int i = 0; i < text.length(); i++) {
            word = word << 8 | text.charAt(i);
        }
        return word;
    }

    void due(String call, long want, long got) {
        asked++;
        if (want != got) {
            wrong++;
            System.out.println(name + ": " + call + " answered " + got + ", due is " + want);
        }
    }

    void due(String call, boolean want, boolean got) {
        due(call, want ? 1 : 0, got ? 1 : 0);
    }

    /** The number of RULES that the text has as a PROGRAM of its own, without a FAULT. */
    void reads(String text, int rules) {
        PlanDesk desk = new PlanDesk();
        due("type " + text, true, type(desk, text));
        due("program of " + text, rules, program(desk));
        due("kind of no fault: " + text, 0, desk.fault(0));
        due("place of no fault: " + text, 0, desk.fault(1));
    }

    /** The FAULT that the text has as a PROGRAM of its own. */
    void faults(String text, int kind, int place) {
        PlanDesk desk = new PlanDesk();
        due("type " + text, true, type(desk, text));
        due("program of " + text, THREW, program(desk));
        due("fault kind of " + text, kind, desk.fault(0));
        due("fault place of " + text, place, desk.fault(1));
    }

    static final int THREW = Integer.MIN_VALUE;
    private static final int THREW_ANOTHER = Integer.MIN_VALUE + 1;

    /** The document names an exception; one of a class below it is another one. */
    private static int threw(RuntimeException e, Class<?> due) {
        return e.getClass() == due ? THREW : THREW_ANOTHER;
    }

    static int program(PlanDesk desk) {
        try {
            return desk.program();
        } catch (IllegalArgumentException e) {
            return threw(e, IllegalArgumentException.class);
        }
    }

    static int rule(PlanDesk desk, int r, int what) {
        try {
            return desk.rule(r, what);
        } catch (NoSuchElementException e) {
            return threw(e, NoSuchElementException.class);
        }
    }

    static int literal(PlanDesk desk, int r, int i, int what) {
        try {
            return desk.literal(r, i, what);
        } catch (NoSuchElementException e) {
            return threw(e, NoSuchElementException.class);
        }
    }

    static String times(int n, String text) {
        return text.repeat(n);
    }

    void end() {
        System.out.println(name + ": " + asked + " answers, " + wrong + " wrong");
        if (wrong != 0 || asked == 0) {
            System.exit(1);
        }
    }
}
