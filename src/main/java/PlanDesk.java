import java.util.NoSuchElementException;

/** Rules over facts, read and planned. Words in capitals are the document's terms. */
public final class PlanDesk {
    public static final int NONE = -1;

    private static final int MOST_CHARACTERS = 600;
    private static final int MOST_RULES = 30;
    private static final int MOST_PREDICATES = 16;
    private static final int MOST_VARIABLES = 8;
    private static final int MOST_LITERALS = 6;
    private static final int MOST_ATOMS = 3;
    private static final int MOST_ARGUMENTS = 4;
    private static final int MOST_FACTS = 120; // the shortest FACT has five characters
    private static final int ALL_LITERALS = 180; // six rows for each of thirty RULES

    private static final int LONGEST_NAME = 6;
    private static final int LONGEST_VARIABLE = 4;
    private static final int LONGEST_NUMBER = 9;

    private static final int LETTER_BITS = 7;
    private static final int LETTER_MASK = 127;

    // A TERM is one long: a number is itself, and the others stand far above all numbers.
    private static final long SYMBOLS = 1L << 44;
    private static final long VARIABLES = 1L << 48;
    private static final long ANYTHING = 1L << 52;

    private final Tape tape;
    private final Reader reader;
    private Book book;
    private Book draft;

    public PlanDesk() {
        tape = new Tape();
        reader = new Reader();
        book = new Book();
        draft = new Book();
    }

    public boolean type(long word, int n) {
        if (n < 1 || n > 8 || tape.length + n > MOST_CHARACTERS) {
            return false;
        }
        for (int i = 0; i < n; i++) {
            int character = byteOf(word, i);
            if (character < 32 || character > 126) {
                return false;
            }
        }
        for (int i = n - 1; i >= 0; i--) {
            tape.add(byteOf(word, i));
        }
        return true;
    }

    public int program() throws IllegalArgumentException {
        boolean good = reader.read(tape, draft);
        tape.length = 0;
        if (!good) {
            throw new IllegalArgumentException("the tape has a FAULT");
        }
        // The old PROGRAM's rows become the next draft, so that no call makes new ones.
        Book old = book;
        book = draft;
        draft = old;
        return book.rules.count;
    }

    public int fault(int what) {
        switch (what) {
            case 0:
                return reader.faultKind;
            case 1:
                return reader.faultPlace;
            default:
                return NONE;
        }
    }

    public int predicates() {
        return book.count;
    }

    public int predicate(int p, int what) {
        if (p < 0 || p >= book.count) {
            return NONE;
        }
        switch (what) {
            case 0:
                return book.sizes[p];
            case 1:
                return book.strata[p];
            case 2:
                return book.ruleCounts[p];
            case 3:
                return book.factCounts[p];
            case 4:
                return letters(book.names[p]);
            default:
                return what < 100 ? NONE : letter(book.names[p], what - 100);
        }
    }

    public boolean hangs(int p, int q) {
        return p >= 0 && p < book.count && q >= 0 && q < book.count && book.reaches(p, q);
    }

    public int rule(int r, int what) throws NoSuchElementException {
        Rules rules = book.rules;
        if (r < 0 || r >= rules.count) {
            throw new NoSuchElementException("no such RULE");
        }
        switch (what) {
            case 0:
                return rules.heads[r];
            case 1:
                return rules.sizes[r];
            case 2:
                return rules.variables[r];
            case 3:
                return rules.totals[r];
            case 4:
                return book.circles(r);
            default:
                throw new NoSuchElementException("a RULE has no such number");
        }
    }

    public int literal(int r, int i, int what) throws NoSuchElementException {
        Rules rules = book.rules;
        if (r < 0 || r >= rules.count || i < 0 || i >= rules.sizes[r]) {
            throw new NoSuchElementException("no such LITERAL");
        }
        int planned = r * MOST_LITERALS + i;
        int written = r * MOST_LITERALS + rules.order[planned];
        switch (what) {
            case 0:
                return rules.order[planned];
            case 1:
                return rules.kinds[written];
            case 2:
                return rules.asked[written];
            case 3:
                return rules.known[planned];
            case 4:
                return rules.valued[planned];
            default:
                throw new NoSuchElementException("a LITERAL has no such number");
        }
    }

    private static int byteOf(long word, int i) {
        return (int) (word >>> (8 * i)) & 255;
    }

    private static int letters(long name) {
        int count = 0;
        while (count < LONGEST_NAME && name >> (LETTER_BITS * count) != 0) {
            count++;
        }
        return count;
    }

    private static int letter(long name, int i) {
        int behind = letters(name) - 1 - i;
        if (i < 0 || behind < 0) {
            return NONE;
        }
        return (int) (name >> (LETTER_BITS * behind)) & LETTER_MASK;
    }

    /** The characters typed so far. */
    private static final class Tape {
        static final int SMALL = 1;
        static final int GREAT = 2;
        static final int DIGIT = 4;

        final byte[] characters = new byte[MOST_CHARACTERS];
        int length;

        void add(int character) {
            if (length < characters.length) {
                characters[length] = (byte) character;
                length++;
            }
        }

        /** The character at a place; 0, which nobody can type, where there is none. */
        int at(int place) {
            return place >= 0 && place < length ? characters[place] : 0;
        }

        int sortAt(int place) {
            int character = at(place);
            if (character >= 'a' && character <= 'z') {
                return SMALL;
            }
            if (character >= 'A' && character <= 'Z') {
                return GREAT;
            }
            return character >= '0' && character <= '9' ? DIGIT : 0;
        }

        /** Where the characters of these sorts that stand at a place end. */
        int endOfRun(int place, int sorts) {
            for (int end = place; end < length; end++) {
                if ((sortAt(end) & sorts) == 0) {
                    return end;
                }
            }
            return length;
        }

        boolean spells(int place, int end, String word) {
            if (end - place != word.length()) {
                return false;
            }
            for (int i = 0; i < word.length(); i++) {
                if (at(place + i) != word.charAt(i)) {
                    return false;
                }
            }
            return true;
        }

        long packed(int place, int end) {
            long text = 0;
            for (int i = place; i < end; i++) {
                text = (text << LETTER_BITS) | at(i);
            }
            return text;
        }

        long number(int place, int end) {
            long number = 0;
            for (int i = place; i < end; i++) {
                number = number * 10 + at(i) - '0';
            }
            return number;
        }
    }

    /** The tape cut into TOKENS; behind them stands END, whose place is the tape's length. */
    private static final class Tokens {
        static final int END = 0;
        static final int STRANGE = 1; // can stand nowhere: no TOKEN, or the SIGN ?
        static final int NAME = 2;
        static final int VARIABLE = 3;
        static final int NUMBER = 4;
        static final int OPEN = 5;
        static final int CLOSE = 6;
        static final int COMMA = 7;
        static final int DOT = 8;
        static final int NOT = 9;
        static final int ANY = 10;
        static final int IF = 11;
        static final int EQUAL = 12;
        static final int COMPARE = 13;
        static final int MINUS = 14;
        static final int OPERATION = 15;
        static final int IS = 16;
        static final int TOTAL = 17;

        final int[] kinds = new int[MOST_CHARACTERS + 1];
        final int[] places = new int[MOST_CHARACTERS + 1];
        final long[] values = new long[MOST_CHARACTERS + 1];
        int count;

        void cut(Tape tape) {
            count = 0;
            int next = 0;
            for (int place = 0; place < tape.length; place++) {
                if (place >= next && tape.at(place) != ' ') {
                    switch (tape.sortAt(place)) {
                        case Tape.SMALL:
                            next = cutName(tape, place);
                            break;
                        case Tape.GREAT:
                            next = cutVariable(tape, place);
                            break;
                        case Tape.DIGIT:
                            next = cutNumber(tape, place);
                            break;
                        default:
                            next = cutSign(tape, place);
                            break;
                    }
                }
            }
            add(END, tape.length, 0);
        }

        private void add(int kind, int place, long value) {
            if (count < kinds.length) {
                kinds[count] = kind;
                places[count] = place;
                values[count] = value;
                count++;
            }
        }

        // Each of these cuts the TOKEN at a place and answers where it ends.

        private int cutName(Tape tape, int place) {
            int end = tape.endOfRun(place, Tape.SMALL | Tape.DIGIT);
            int total = totalAt(tape, place, end);
            if (end - place > LONGEST_NAME) {
                add(STRANGE, place, 0);
            } else if (total > 0) {
                add(TOTAL, place, total);
            } else if (tape.spells(place, end, "is")) {
                add(IS, place, 0);
            } else {
                add(NAME, place, tape.packed(place, end));
            }
            return end;
        }

        private static int totalAt(Tape tape, int place, int end) {
            if (tape.spells(place, end, "count")) {
                return 1;
            }
            if (tape.spells(place, end, "sum")) {
                return 2;
            }
            if (tape.spells(place, end, "least")) {
                return 3;
            }
            return tape.spells(place, end, "most") ? 4 : 0;
        }

        private int cutVariable(Tape tape, int place) {
            int end = tape.endOfRun(place, Tape.SMALL | Tape.GREAT | Tape.DIGIT);
            if (end - place > LONGEST_VARIABLE) {
                add(STRANGE, place, 0);
            } else {
                add(VARIABLE, place, tape.packed(place, end));
            }
            return end;
        }

        private int cutNumber(Tape tape, int place) {
            int end = tape.endOfRun(place, Tape.DIGIT);
            if (end - place > LONGEST_NUMBER) {
                add(STRANGE, place, 0);
            } else {
                add(NUMBER, place, tape.number(place, end));
            }
            return end;
        }

        private int cutSign(Tape tape, int place) {
            int pair = pairKind(tape.at(place), tape.at(place + 1));
            if (pair != STRANGE) {
                add(pair, place, 0);
                return place + 2;
            }
            add(signKind(tape.at(place)), place, 0);
            return place + 1;
        }

        private static int pairKind(int first, int second) {
            if (first == ':' && second == '-') {
                return IF;
            }
            boolean compares = first == '!' || first == '<' || first == '>';
            return compares && second == '=' ? COMPARE : STRANGE;
        }

        private static int signKind(int character) {
            switch (character) {
                case '(':
                    return OPEN;
                case ')':
                    return CLOSE;
                case ',':
                    return COMMA;
                case '.':
                    return DOT;
                case '!':
                    return NOT;
                case '_':
                    return ANY;
                case '=':
                    return EQUAL;
                case '<':
                case '>':
                    return COMPARE;
                case '-':
                    return MINUS;
                case '+':
                case '*':
                case '/':
                case '%':
                    return OPERATION;
                default:
                    return STRANGE;
            }
        }
    }

    /** A LITERAL, or a HEAD; sets of VARIABLES are bits, by their numbers in the CLAUSE. */
    private static final class Literal {
        static final int ATOM = 0;
        static final int DENIED = 1;
        static final int RELATION = 2;
        static final int IS = 3;
        static final int HEAD = 4;

        int kind;
        int place;
        int asked;
        boolean equation;
        int size;
        final long[] terms = new long[MOST_ARGUMENTS];
        final int[] variables = new int[MOST_ARGUMENTS]; // of each TERM: a set of one, or none

        void begin(int kindNow, int placeNow) {
            kind = kindNow;
            place = placeNow;
            asked = NONE;
            equation = false;
            size = 0;
        }

        void add(long term) {
            if (size < terms.length) {
                boolean isVariable = term >= VARIABLES && term < ANYTHING;
                terms[size] = term;
                variables[size] = isVariable ? 1 << (int) (term - VARIABLES) : 0;
                size++;
            }
        }

        boolean isAtom() {
            return kind == ATOM || kind == DENIED;
        }

        int variablesFrom(int first) {
            int found = 0;
            for (int i = first; i < size; i++) {
                found |= variables[i];
            }
            return found;
        }

        boolean canBeAsked(int valued) {
            if (equation) {
                return (variables[0] & ~valued) == 0 || (variables[1] & ~valued) == 0;
            }
            int needed = variablesFrom(kind == IS ? 1 : 0);
            return (needed & ~valued) == 0;
        }

        int knownArguments(int valued) {
            int known = 0;
            for (int i = 0; i < size; i++) {
                if (terms[i] != ANYTHING && (variables[i] & ~valued) == 0) {
                    known |= 1 << i;
                }
            }
            return known;
        }
    }

    /** The CLAUSE that is being read, and its PLAN. */
    private static final class Clause {
        final Literal head = new Literal();
        final Literal[] body = new Literal[MOST_LITERALS];
        int size;
        int atoms;
        int total;
        int totalPlace;
        int variables;
        final long[] names = new long[MOST_VARIABLES];
        final int[] firstPlaces = new int[MOST_VARIABLES];
        final int[] order = new int[MOST_LITERALS];
        final int[] known = new int[MOST_LITERALS];
        final int[] valued = new int[MOST_LITERALS];

        Clause() {
            for (int i = 0; i < body.length; i++) {
                body[i] = new Literal();
            }
        }

        void begin(int place) {
            head.begin(Literal.HEAD, place);
            size = 0;
            atoms = 0;
            total = 0;
            totalPlace = 0;
            variables = 0;
        }

        /** The VARIABLE's number, a new one where it is first; NONE for one too many. */
        int variableOf(long name, int place) {
            for (int i = 0; i < variables; i++) {
                if (names[i] == name) {
                    return i;
                }
            }
            if (variables >= names.length) {
                return NONE;
            }
            names[variables] = name;
            firstPlaces[variables] = place;
            variables++;
            return variables - 1;
        }

        /** Where the first VARIABLE or TOTAL of a HEAD without a BODY stands; NONE without one. */
        int openPlace() {
            if (variables == 0) {
                return NONE;
            }
            return total > 0 ? Math.min(totalPlace, firstPlaces[0]) : firstPlaces[0];
        }

        /**
         * Makes THE PLAN and answers where the first VARIABLE without a VALUE behind it stands,
         * or NONE. Such ones are just those that are not BOUND: a PLAN asks all that can bind.
         */
        int plan() {
            int have = 0;
            int left = (1 << size) - 1;
            for (int step = 0; step < size; step++) {
                int next = nextAsked(left, have);
                if (next == NONE) {
                    break;
                }
                Literal literal = body[next];
                order[step] = next;
                known[step] = literal.isAtom() ? literal.knownArguments(have) : 0;
                have |= literal.variablesFrom(0);
                valued[step] = Integer.bitCount(have);
                left &= ~(1 << next);
            }
            return firstWithout(have);
        }

        private int nextAsked(int left, int have) {
            int best = NONE;
            int most = NONE;
            for (int i = 0; i < size; i++) {
                boolean isLeft = (left >> i & 1) != 0;
                boolean isAtom = body[i].kind == Literal.ATOM;
                if (isLeft && !isAtom && body[i].canBeAsked(have)) {
                    return i;
                }
                int count = Integer.bitCount(body[i].knownArguments(have));
                if (isLeft && isAtom && count > most) {
                    best = i;
                    most = count;
                }
            }
            return best;
        }

        private int firstWithout(int have) {
            for (int i = 0; i < variables; i++) {
                if ((have >> i & 1) == 0) {
                    return firstPlaces[i];
                }
            }
            return NONE;
        }
    }

    /** The RULES that were read: a row each, and six rows each for their LITERALS. */
    private static final class Rules {
        int count;
        final int[] heads = new int[MOST_RULES];
        final int[] sizes = new int[MOST_RULES];
        final int[] variables = new int[MOST_RULES];
        final int[] totals = new int[MOST_RULES];
        final int[] totalPlaces = new int[MOST_RULES];

        // As they are written.
        final int[] kinds = new int[ALL_LITERALS];
        final int[] asked = new int[ALL_LITERALS];
        final int[] places = new int[ALL_LITERALS];

        // As they are planned.
        final int[] order = new int[ALL_LITERALS];
        final int[] known = new int[ALL_LITERALS];
        final int[] valued = new int[ALL_LITERALS];

        void add(Clause clause) {
            if (count >= MOST_RULES) {
                return;
            }
            heads[count] = clause.head.asked;
            sizes[count] = clause.size;
            variables[count] = clause.variables;
            totals[count] = clause.total;
            totalPlaces[count] = clause.totalPlace;
            for (int i = 0; i < clause.size; i++) {
                int row = count * MOST_LITERALS + i;
                kinds[row] = clause.body[i].kind;
                asked[row] = clause.body[i].asked;
                places[row] = clause.body[i].place;
                order[row] = clause.order[i];
                known[row] = clause.known[i];
                valued[row] = clause.valued[i];
            }
            count++;
        }

        /** Whether what RULE r asks by the LITERAL in this row must be finished ahead of it. */
        boolean waits(int r, int row) {
            return totals[r] > 0 || kinds[row] == Literal.DENIED;
        }
    }

    /** A PROGRAM: its predicates, a row each, and its RULES. */
    private static final class Book {
        final Rules rules = new Rules();
        int count;
        final long[] names = new long[MOST_PREDICATES];
        final int[] sizes = new int[MOST_PREDICATES];
        final int[] ruleCounts = new int[MOST_PREDICATES];
        final int[] factCounts = new int[MOST_PREDICATES];
        final int[] strata = new int[MOST_PREDICATES];
        final int[] hangsOn = new int[MOST_PREDICATES]; // a bit for each predicate

        void clear() {
            count = 0;
            rules.count = 0;
        }

        /** The predicate of this NAME, a new one where it is first; NONE for one too many. */
        int numberOf(long name) {
            for (int p = 0; p < count; p++) {
                if (names[p] == name) {
                    return p;
                }
            }
            if (count >= MOST_PREDICATES) {
                return NONE;
            }
            names[count] = name;
            sizes[count] = 0;
            ruleCounts[count] = 0;
            factCounts[count] = 0;
            strata[count] = 0;
            hangsOn[count] = 0;
            count++;
            return count - 1;
        }

        /** Whether this is the predicate's number of ARGUMENTS, which the first place sets. */
        boolean agrees(int p, int size) {
            if (p < 0 || p >= count) {
                return false;
            }
            if (sizes[p] == 0) {
                sizes[p] = size;
            }
            return sizes[p] == size;
        }

        void addRule(Clause clause) {
            int head = clause.head.asked;
            if (head < 0 || head >= count) {
                return;
            }
            rules.add(clause);
            ruleCounts[head]++;
            for (int i = 0; i < clause.size; i++) {
                if (clause.body[i].isAtom()) {
                    hangsOn[head] |= 1 << clause.body[i].asked;
                }
            }
        }

        void addFact(int p) {
            if (p >= 0 && p < count) {
                factCounts[p]++;
            }
        }

        boolean reaches(int p, int q) {
            return (hangsOn[p] >> q & 1) != 0;
        }

        /** From what predicates hang on by one RULE to all that they hang on. */
        void spreadHanging() {
            for (int through = 0; through < count; through++) {
                for (int p = 0; p < count; p++) {
                    if (reaches(p, through)) {
                        hangsOn[p] |= hangsOn[through];
                    }
                }
            }
        }

        /** Whether the LITERAL in this row leads RULE r back to its HEAD's predicate. */
        private boolean leadsBack(int r, int row) {
            int asked = rules.asked[row];
            int head = rules.heads[r];
            return asked >= 0 && asked < count && (asked == head || reaches(asked, head));
        }

        /** How many ATOMS without ! lead RULE r back to its HEAD's predicate. */
        int circles(int r) {
            int circles = 0;
            for (int i = 0; i < rules.sizes[r]; i++) {
                int row = r * MOST_LITERALS + i;
                if (rules.kinds[row] == Literal.ATOM && leadsBack(r, row)) {
                    circles++;
                }
            }
            return circles;
        }

        /** Where the first ! or TOTAL stands through which a predicate hangs on itself, or NONE. */
        int knotPlace() {
            for (int r = 0; r < rules.count; r++) {
                for (int i = 0; i < rules.sizes[r]; i++) {
                    int row = r * MOST_LITERALS + i;
                    if (rules.waits(r, row) && leadsBack(r, row)) {
                        return rules.totals[r] > 0 ? rules.totalPlaces[r] : rules.places[row];
                    }
                }
            }
            return NONE;
        }

        /** Without a knot a way through the predicates rises at most once at each of them. */
        void layStrata() {
            for (int round = 0; round < count; round++) {
                for (int r = 0; r < rules.count; r++) {
                    liftHead(r);
                }
            }
        }

        private void liftHead(int r) {
            int head = rules.heads[r];
            for (int i = 0; i < rules.sizes[r]; i++) {
                int row = r * MOST_LITERALS + i;
                int asked = rules.asked[row];
                if (asked >= 0 && asked < count) {
                    int least = strata[asked] + (rules.waits(r, row) ? 1 : 0);
                    strata[head] = Math.max(strata[head], least);
                }
            }
        }
    }

    /** The different FACTS of the tape that is being read. */
    private static final class Facts {
        final int[] owners = new int[MOST_FACTS];
        final long[] terms = new long[MOST_FACTS * MOST_ARGUMENTS];
        int count;

        /** Whether the FACT is a new one; then it is kept. */
        boolean add(Literal fact) {
            for (int i = 0; i < count; i++) {
                if (owners[i] == fact.asked && isSame(i, fact)) {
                    return false;
                }
            }
            if (count < MOST_FACTS) {
                owners[count] = fact.asked;
                System.arraycopy(fact.terms, 0, terms, count * MOST_ARGUMENTS, fact.size);
                count++;
            }
            return true;
        }

        /** FACTS of one predicate have one size, or the PROGRAM has a FAULT and is not kept. */
        private boolean isSame(int i, Literal fact) {
            for (int k = 0; k < fact.size; k++) {
                if (terms[i * MOST_ARGUMENTS + k] != fact.terms[k]) {
                    return false;
                }
            }
            return true;
        }
    }

    /**
     * Reads a tape into a book. Its reading methods answer whether they came through; where
     * they did not, the FAULT is set.
     */
    private static final class Reader {
        final Tokens tokens = new Tokens();
        final Clause clause = new Clause();
        final Facts facts = new Facts();
        Book target;
        int faultKind;
        int faultPlace;

        // The TOKEN that is next.
        int at;
        int kind;
        int place;
        long value;

        boolean read(Tape tape, Book book) {
            tokens.cut(tape);
            target = book;
            target.clear();
            facts.count = 0;
            faultKind = 0;
            faultPlace = 0;
            moveTo(0);
            for (int round = 0; round < tokens.count && kind != Tokens.END; round++) {
                clause.begin(place);
                if (!readAtom(clause.head) || !readBody()) {
                    return false;
                }
                if (!(clause.size > 0 ? endRule() : endFact())) {
                    return false;
                }
            }
            if (faultKind == 0) {
                finish();
            }
            return faultKind == 0;
        }

        private void finish() {
            target.spreadHanging();
            int knot = target.knotPlace();
            if (knot != NONE) {
                note(4, knot);
            } else {
                target.layStrata();
            }
        }

        private void moveTo(int token) {
            if (token >= 0 && token < tokens.count) {
                at = token;
                kind = tokens.kinds[token];
                place = tokens.places[token];
                value = tokens.values[token];
            }
        }

        private boolean refuse(int where) {
            faultKind = 1;
            faultPlace = where;
            return false;
        }

        /** Keeps the FAULT that is first on the tape; only one of kind 1 ends the reading. */
        private void note(int faultNow, int where) {
            if (faultKind == 0 || where < faultPlace) {
                faultKind = faultNow;
                faultPlace = where;
            }
        }

        private boolean take(int wanted) {
            if (kind != wanted) {
                return refuse(place);
            }
            moveTo(at + 1);
            return true;
        }

        /** What is between a HEAD and the CLAUSE's dot, if anything is. */
        private boolean readBody() {
            if (kind == Tokens.DOT) {
                return true;
            }
            if (kind == Tokens.IF && target.rules.count >= MOST_RULES) {
                return refuse(clause.head.place);
            }
            if (!take(Tokens.IF)) {
                return false;
            }
            for (int i = 0; i < MOST_LITERALS; i++) {
                if (!readLiteral(clause.body[i])) {
                    return false;
                }
                clause.size++;
                if (kind == Tokens.DOT) {
                    return true;
                }
                if (!take(Tokens.COMMA)) {
                    return false;
                }
            }
            return refuse(place);
        }

        private boolean endRule() {
            int unbound = clause.plan();
            if (unbound != NONE) {
                note(3, unbound);
            }
            target.addRule(clause);
            return take(Tokens.DOT);
        }

        private boolean endFact() {
            int open = clause.openPlace();
            if (open != NONE) {
                return refuse(open);
            }
            if (facts.add(clause.head)) {
                target.addFact(clause.head.asked);
            }
            return take(Tokens.DOT);
        }

        private boolean readLiteral(Literal literal) {
            if (kind == Tokens.NOT) {
                literal.begin(Literal.DENIED, place);
                moveTo(at + 1);
                return readAtom(literal);
            }
            if (kind == Tokens.NAME && isOpenNext()) {
                if (clause.atoms >= MOST_ATOMS) {
                    return refuse(place);
                }
                clause.atoms++;
                literal.begin(Literal.ATOM, place);
                return readAtom(literal);
            }
            return readTest(literal);
        }

        private boolean isOpenNext() {
            return at + 1 < tokens.count && tokens.kinds[at + 1] == Tokens.OPEN;
        }

        /** A relation or an is. */
        private boolean readTest(Literal literal) {
            boolean mayBeIs = kind == Tokens.VARIABLE;
            literal.begin(Literal.RELATION, place);
            if (!readTerm(literal)) {
                return false;
            }
            if (mayBeIs && kind == Tokens.IS) {
                literal.kind = Literal.IS;
                moveTo(at + 1);
                return readTerm(literal) && readOperation() && readTerm(literal);
            }
            if (kind != Tokens.EQUAL && kind != Tokens.COMPARE) {
                return refuse(place);
            }
            literal.equation = kind == Tokens.EQUAL;
            moveTo(at + 1);
            return readTerm(literal);
        }

        private boolean readOperation() {
            return take(kind == Tokens.MINUS ? Tokens.MINUS : Tokens.OPERATION);
        }

        /** A NAME and its ARGUMENTS, of an ATOM or a HEAD. */
        private boolean readAtom(Literal atom) {
            int namePlace = place;
            if (kind != Tokens.NAME) {
                return refuse(place);
            }
            atom.asked = target.numberOf(value);
            if (atom.asked == NONE) {
                return refuse(place);
            }
            moveTo(at + 1);
            if (!take(Tokens.OPEN)) {
                return false;
            }
            for (int i = 0; i < MOST_ARGUMENTS; i++) {
                boolean good = kind == Tokens.TOTAL ? readTotal(atom)
                        : kind == Tokens.ANY ? readAnything(atom) : readTerm(atom);
                if (!good) {
                    return false;
                }
                if (kind == Tokens.CLOSE) {
                    if (!target.agrees(atom.asked, atom.size)) {
                        note(2, namePlace);
                    }
                    return take(Tokens.CLOSE);
                }
                if (!take(Tokens.COMMA)) {
                    return false;
                }
            }
            return refuse(place);
        }

        private boolean readTotal(Literal atom) {
            if (atom.kind != Literal.HEAD || clause.total > 0) {
                return refuse(place);
            }
            clause.total = (int) value;
            clause.totalPlace = place;
            moveTo(at + 1);
            if (!take(Tokens.OPEN)) {
                return false;
            }
            if (kind != Tokens.VARIABLE) {
                return refuse(place);
            }
            return readTerm(atom) && take(Tokens.CLOSE);
        }

        private boolean readAnything(Literal atom) {
            boolean counts = atom.kind == Literal.ATOM && clause.total > 0;
            if (atom.kind == Literal.HEAD || counts) {
                return refuse(place);
            }
            atom.add(ANYTHING);
            moveTo(at + 1);
            return true;
        }

        private boolean readTerm(Literal literal) {
            boolean minus = kind == Tokens.MINUS;
            if (minus) {
                moveTo(at + 1);
            }
            if (kind == Tokens.NUMBER) {
                literal.add(minus ? -value : value);
            } else if (kind == Tokens.NAME && !minus) {
                literal.add(SYMBOLS + value);
            } else if (kind == Tokens.VARIABLE && !minus) {
                int number = clause.variableOf(value, place);
                if (number == NONE) {
                    return refuse(place);
                }
                literal.add(VARIABLES + number);
            } else {
                return refuse(place);
            }
            moveTo(at + 1);
            return true;
        }
    }
}
