import java.util.ArrayList;
import java.util.NoSuchElementException;

/**
 * A store of lines that join things, and other lines, in roles, for a span of days.
 * The document DOC.md says what each call promises; the words in capitals are its terms.
 */
public final class LineStore {
    public static final int NONE = -1;

    private static final int THINGS = 40;
    private static final int ROLES = 6;
    private static final int KINDS = 6;
    private static final int LAST_DAY = 1000;
    private static final int MOST_LINES = 120;
    private static final int MOST_ENDS = 6;
    private static final int MOST_ALONE = 100;
    private static final int MOST_BYTES = 400;
    private static final int FED_BYTES = 20;
    private static final int MOST_ATOMS = 6;
    private static final int MOST_PARTS = 4;
    private static final int VARIABLES = 3;
    /** No QUESTION has more: each VARIABLE may be each THING. */
    private static final int MOST_ANSWERS = THINGS * THINGS * THINGS;
    /** The set of all THINGS: a set of THINGS is a long with a bit for each. */
    private static final long ALL = (1L << THINGS) - 1;

    private final Tape tape = new Tape();
    private final Laws laws = new Laws();
    private final Ones ones = new Ones();
    private final Ends drafted = new Ends();
    private final Lines lines = new Lines();
    private final Reader reader = new Reader();
    private final Matcher matcher = new Matcher();
    private Question asked = new Question();
    /** A wrong text must leave the QUESTION before it, so a text is read into this one first. */
    private Question spare = new Question();
    private int firstWrong = NONE;

    public LineStore() {
    }

    public int feed(int a, int b, int c, int d, int e) {
        if (!tape.hasRoom(FED_BYTES)) {
            return NONE;
        }
        tape.add(a);
        tape.add(b);
        tape.add(c);
        tape.add(d);
        tape.add(e);
        return tape.length();
    }

    public boolean end(int n) {
        return tape.cut(n);
    }

    public void ends(int kind, int role, int least, int most)
            throws IndexOutOfBoundsException, IllegalArgumentException {
        checkKind(kind);
        checkRole(role);
        if (least < 0 || least > most || most > MOST_ENDS) {
            throw new IllegalArgumentException("not 0 to least to most to 6");
        }
        laws.setEnds(kind, role, least, most);
    }

    public void alone(int kind, int role, int most)
            throws IndexOutOfBoundsException, IllegalArgumentException {
        checkKind(kind);
        checkRole(role);
        if (most < 0 || most > MOST_ALONE) {
            throw new IllegalArgumentException("not 0 to 100");
        }
        laws.setAlone(kind, role, most);
    }

    public boolean holds(int kind, boolean is) throws IndexOutOfBoundsException {
        checkKind(kind);
        return laws.setHolding(kind, is);
    }

    public int draft(int role, boolean line, int number) throws IndexOutOfBoundsException {
        checkRole(role);
        if (line) {
            checkLine(number);
        } else {
            checkThing(number);
        }
        return drafted.add(role, line, number) ? drafted.size() : NONE;
    }

    public int put(int kind, int from, int to)
            throws IndexOutOfBoundsException, IllegalArgumentException, UnsupportedOperationException {
        checkKind(kind);
        if (from < 0 || from > to || to > LAST_DAY) {
            throw new IllegalArgumentException("no such days");
        }
        if (drafted.size() == 0) {
            throw new IllegalArgumentException("the draft has no ends");
        }
        if (lines.size() >= MOST_LINES) {
            throw new UnsupportedOperationException("there are 120 lines");
        }
        Line line = new Line(kind, from, to, drafted.copy());
        drafted.clear();
        int why = whyRefused(line);
        return why == 0 ? lines.add(line) : -why;
    }

    public int strike(int line, int day) throws IndexOutOfBoundsException {
        checkLine(line);
        return lines.strikeFrom(line, day, laws);
    }

    public boolean one(int a, int b) throws IndexOutOfBoundsException {
        checkThing(a);
        checkThing(b);
        return ones.join(a, b);
    }

    public boolean part() {
        return ones.undo();
    }

    public int as(int thing) throws IndexOutOfBoundsException {
        checkThing(thing);
        return ones.of(thing);
    }

    public int look(int line, int what) throws IndexOutOfBoundsException, NoSuchElementException {
        checkLine(line);
        Line seen = lines.get(line);
        switch (what) {
            case 0:
                return seen.kind;
            case 1:
                return seen.from;
            case 2:
                return seen.to;
            case 3:
                return seen.ends.size();
            case 4:
                return lines.hangingOn(line);
            default:
                throw new NoSuchElementException("what is not 0 to 4");
        }
    }

    public int ended(int line, int i, int what) throws IndexOutOfBoundsException, NoSuchElementException {
        checkLine(line);
        Ends seen = lines.get(line).ends;
        if (i < 0 || i >= seen.size()) {
            throw new NoSuchElementException("there is no such end");
        }
        switch (what) {
            case 0:
                return seen.role(i);
            case 1:
                return seen.thing(i);
            case 2:
                return seen.line(i);
            default:
                throw new NoSuchElementException("what is not 0 to 2");
        }
    }

    public int question() throws IllegalArgumentException {
        boolean right = reader.read(tape, spare);
        tape.clear();
        firstWrong = right ? NONE : reader.begin();
        if (!right) {
            throw new IllegalArgumentException("the text is wrong");
        }
        Question before = asked;
        asked = spare;
        spare = before;
        return asked.atoms();
    }

    public int fault() {
        return firstWrong;
    }

    public int answers(int day) {
        if (asked.atoms() == 0) {
            return 0;
        }
        matcher.prepare(asked, lines, ones, day);
        return matcher.howMany();
    }

    public int answer(int day, int n, int variable) {
        if (n < 0 || variable < 0 || variable >= VARIABLES || !asked.uses(variable)) {
            return NONE;
        }
        matcher.prepare(asked, lines, ones, day);
        return matcher.find(n) ? matcher.found(variable) : NONE;
    }

    public int ways(int from, int to, int kinds, int day) throws IndexOutOfBoundsException {
        checkThing(from);
        checkThing(to);
        return lines.fewestBetween(ones.of(from), ones.of(to), kinds, day, ones);
    }

    public int degree(int thing, int kind, int role, int day) throws IndexOutOfBoundsException {
        checkThing(thing);
        checkKind(kind);
        checkRole(role);
        return lines.withThing(ones.of(thing), kind, role, day, ones);
    }

    public int count(int what) {
        switch (what) {
            case 0:
                return lines.size();
            case 1:
                return drafted.size();
            case 2:
                return ones.joins();
            case 3:
                return THINGS - ones.joins();
            case 4:
                return asked.atoms();
            case 5:
                return asked.variables();
            default:
                return NONE;
        }
    }

    /** 0 if the LINE is not refused. */
    private int whyRefused(Line line) {
        if (!laws.allowEnds(line)) {
            return 1;
        }
        if (!lines.bear(line)) {
            return 2;
        }
        return lines.crowdedBy(line, laws, ones) ? 3 : 0;
    }

    private static void checkThing(int thing) {
        if (thing < 0 || thing >= THINGS) {
            throw new IndexOutOfBoundsException("there is no such thing");
        }
    }

    private static void checkRole(int role) {
        if (role < 0 || role >= ROLES) {
            throw new IndexOutOfBoundsException("there is no such role");
        }
    }

    private static void checkKind(int kind) {
        if (kind < 0 || kind >= KINDS) {
            throw new IndexOutOfBoundsException("there is no such kind");
        }
    }

    private void checkLine(int line) {
        if (line < 0 || line >= lines.size()) {
            throw new IndexOutOfBoundsException("there is no such line");
        }
    }

    private static boolean isIn(long set, int thing) {
        return ((set >>> thing) & 1L) != 0;
    }

    /** The TAPE: bytes 0 to 255. */
    private static final class Tape {
        private final int[] bytes = new int[MOST_BYTES];
        private int length;

        boolean hasRoom(int more) {
            return length + more <= MOST_BYTES;
        }

        void add(int number) {
            if (!hasRoom(4)) {
                return;
            }
            for (int shift = 24; shift >= 0; shift -= 8) {
                bytes[length] = (number >>> shift) & 255;
                length++;
            }
        }

        boolean cut(int n) {
            if (n < 0 || n > length) {
                return false;
            }
            length = n;
            return true;
        }

        void clear() {
            length = 0;
        }

        int length() {
            return length;
        }

        /** NONE behind the last byte, so that a reader needs no look at the length. */
        int at(int i) {
            return i >= 0 && i < length ? bytes[i] : NONE;
        }
    }

    /** The LAWS; those of a KIND and ROLE lie at kind * ROLES + role. */
    private static final class Laws {
        private final int[] least = new int[KINDS * ROLES];
        private final int[] most = new int[KINDS * ROLES];
        private final int[] aloneMost = new int[KINDS * ROLES];
        private final boolean[] holding = new boolean[KINDS];

        Laws() {
            for (int i = 0; i < most.length; i++) {
                most[i] = MOST_ENDS;
            }
            for (int kind = 0; kind < KINDS; kind++) {
                holding[kind] = true;
            }
        }

        void setEnds(int kind, int role, int fewest, int highest) {
            least[kind * ROLES + role] = fewest;
            most[kind * ROLES + role] = highest;
        }

        void setAlone(int kind, int role, int highest) {
            aloneMost[kind * ROLES + role] = highest;
        }

        boolean setHolding(int kind, boolean is) {
            boolean other = holding[kind] != is;
            holding[kind] = is;
            return other;
        }

        boolean isHolding(int kind) {
            return holding[kind];
        }

        /** 0: any. */
        int mostAlone(int kind, int role) {
            return aloneMost[kind * ROLES + role];
        }

        boolean allowEnds(Line line) {
            for (int role = 0; role < ROLES; role++) {
                int has = line.ends.inRole(role);
                int law = line.kind * ROLES + role;
                if (has < least[law] || has > most[law]) {
                    return false;
                }
            }
            return true;
        }
    }

    /** Which THINGS are ONE. */
    private static final class Ones {
        /** Each join hangs the greater of two least THINGS on the other one, so a join is undone by one entry. */
        private final int[] hungOn = new int[THINGS];
        /** Kept beside it because it is asked for far more often than it changes. */
        private final int[] least = new int[THINGS];
        private final int[] joined = new int[THINGS];
        private int joins;

        Ones() {
            for (int thing = 0; thing < THINGS; thing++) {
                hungOn[thing] = thing;
                least[thing] = thing;
            }
        }

        int of(int thing) {
            return least[thing];
        }

        int joins() {
            return joins;
        }

        boolean join(int a, int b) {
            int low = Math.min(least[a], least[b]);
            int high = Math.max(least[a], least[b]);
            if (low == high) {
                return false;
            }
            hungOn[high] = low;
            joined[joins] = high;
            joins++;
            renewLeast();
            return true;
        }

        boolean undo() {
            if (joins == 0) {
                return false;
            }
            joins--;
            hungOn[joined[joins]] = joined[joins];
            renewLeast();
            return true;
        }

        /** A THING hangs on a lesser one alone, so the lesser one's entry is always new already. */
        private void renewLeast() {
            for (int thing = 0; thing < THINGS; thing++) {
                int on = hungOn[thing];
                least[thing] = on == thing ? thing : least[on];
            }
        }
    }

    /** The ENDS of a LINE or of the draft, in the order in which they were drafted. */
    private static final class Ends {
        private final int[] roles = new int[MOST_ENDS];
        private final int[] things = new int[MOST_ENDS];
        private final int[] onLines = new int[MOST_ENDS];
        private int size;

        boolean add(int role, boolean isLine, int number) {
            if (size >= MOST_ENDS) {
                return false;
            }
            roles[size] = role;
            things[size] = isLine ? NONE : number;
            onLines[size] = isLine ? number : NONE;
            size++;
            return true;
        }

        void clear() {
            size = 0;
        }

        Ends copy() {
            Ends same = new Ends();
            System.arraycopy(roles, 0, same.roles, 0, size);
            System.arraycopy(things, 0, same.things, 0, size);
            System.arraycopy(onLines, 0, same.onLines, 0, size);
            same.size = size;
            return same;
        }

        int size() {
            return size;
        }

        int role(int i) {
            return roles[i];
        }

        int thing(int i) {
            return things[i];
        }

        int line(int i) {
            return onLines[i];
        }

        int inRole(int role) {
            int has = 0;
            for (int i = 0; i < size; i++) {
                if (roles[i] == role) {
                    has++;
                }
            }
            return has;
        }

        boolean hasLine(int line) {
            for (int i = 0; i < size; i++) {
                if (onLines[i] == line) {
                    return true;
                }
            }
            return false;
        }

        /** The THINGS in a ROLE, of those that are ONE the least. */
        long thingsInRole(int role, Ones ones) {
            long set = 0;
            for (int i = 0; i < size; i++) {
                if (roles[i] == role && things[i] != NONE) {
                    set |= 1L << ones.of(things[i]);
                }
            }
            return set;
        }

        long allThings(Ones ones) {
            long set = 0;
            for (int i = 0; i < size; i++) {
                if (things[i] != NONE) {
                    set |= 1L << ones.of(things[i]);
                }
            }
            return set;
        }
    }

    private static final class Line {
        private final int kind;
        private final int from;
        private int to;
        private final Ends ends;

        Line(int kind, int from, int to, Ends ends) {
            this.kind = kind;
            this.from = from;
            this.to = to;
            this.ends = ends;
        }

        boolean isInForce(int day) {
            return from <= day && day <= to;
        }

        /** A LINE that is never in force may have a last day behind the day that is asked for. */
        boolean isInForceOnOrAfter(int day) {
            return from <= to && day <= to;
        }

        boolean isInForceThrough(int first, int last) {
            return from <= first && last <= to;
        }

        boolean isInForceWithin(int first, int last) {
            return Math.max(from, first) <= Math.min(to, last);
        }
    }

    /** All LINES, by their numbers. */
    private static final class Lines {
        private final ArrayList<Line> list = new ArrayList<>();
        private final boolean[] marked = new boolean[MOST_LINES];
        private final int[] firsts = new int[MOST_LINES];
        private final int[] lasts = new int[MOST_LINES];

        int size() {
            return list.size();
        }

        Line get(int number) {
            return list.get(number);
        }

        int add(Line line) {
            list.add(line);
            return list.size() - 1;
        }

        int hangingOn(int number) {
            int hanging = 0;
            for (int i = number + 1; i < list.size(); i++) {
                if (list.get(i).ends.hasLine(number)) {
                    hanging++;
                }
            }
            return hanging;
        }

        /** Whether all LINES that are ENDS of a new one are in force through its span. */
        boolean bear(Line line) {
            for (int i = 0; i < line.ends.size(); i++) {
                int on = line.ends.line(i);
                if (on != NONE && !list.get(on).isInForceThrough(line.from, line.to)) {
                    return false;
                }
            }
            return true;
        }

        /** Whether a new LINE brings some THING of it above the most LINES that it may be in. */
        boolean crowdedBy(Line line, Laws laws, Ones ones) {
            for (int i = 0; i < line.ends.size(); i++) {
                int role = line.ends.role(i);
                int thing = line.ends.thing(i);
                int most = laws.mostAlone(line.kind, role);
                if (thing != NONE && most > 0 && mostAtOnce(line, role, ones.of(thing), ones) >= most) {
                    return true;
                }
            }
            return false;
        }

        /** In how many LINES of a new one's KIND a THING is in a ROLE on the fullest day of its span. */
        private int mostAtOnce(Line line, int role, int thing, Ones ones) {
            int spans = 0;
            for (int i = 0; i < list.size(); i++) {
                Line other = list.get(i);
                if (other.kind == line.kind && other.isInForceWithin(line.from, line.to)
                        && isIn(other.ends.thingsInRole(role, ones), thing)) {
                    firsts[spans] = other.from;
                    lasts[spans] = other.to;
                    spans++;
                }
            }
            return fullestDay(spans, line.from);
        }

        /** A fullest day is one on which some span begins, or the first that counts. */
        private int fullestDay(int spans, int first) {
            int fullest = 0;
            for (int i = 0; i < spans; i++) {
                int day = Math.max(firsts[i], first);
                int onDay = 0;
                for (int j = 0; j < spans; j++) {
                    if (firsts[j] <= day && day <= lasts[j]) {
                        onDay++;
                    }
                }
                fullest = Math.max(fullest, onDay);
            }
            return fullest;
        }

        /** How many LINES are struck. */
        int strikeFrom(int number, int day, Laws laws) {
            if (!list.get(number).isInForce(day) || !markStruck(number, day, laws)) {
                return 0;
            }
            int struck = 0;
            for (int i = number; i < list.size(); i++) {
                if (marked[i]) {
                    Line line = list.get(i);
                    line.to = Math.max(day, line.from) - 1;
                    struck++;
                }
            }
            return struck;
        }

        /**
         * Marks all that a strike would strike; false if any of them is held. What hangs on a LINE has
         * a greater number and begins no earlier, so one way upward finds all, and asking from the first
         * strike's day on is the same as from the day on which that LINE is struck.
         */
        private boolean markStruck(int number, int day, Laws laws) {
            for (int i = number; i < list.size(); i++) {
                marked[i] = i == number;
                Line line = list.get(i);
                if (i == number || !line.isInForceOnOrAfter(day)) {
                    continue;
                }
                for (int end = 0; end < line.ends.size(); end++) {
                    int on = line.ends.line(end);
                    if (on < number || !marked[on]) {
                        continue;
                    }
                    if (laws.isHolding(list.get(on).kind)) {
                        return false;
                    }
                    marked[i] = true;
                }
            }
            return true;
        }

        /** WAYS between two THINGS that count as themselves; each round reaches all that is one LINE farther. */
        int fewestBetween(int from, int to, int kinds, int day, Ones ones) {
            long reached = 1L << from;
            for (int rounds = 0; rounds < THINGS; rounds++) {
                if (isIn(reached, to)) {
                    return rounds;
                }
                long farther = reached | nextTo(reached, kinds, day, ones);
                if (farther == reached) {
                    return NONE;
                }
                reached = farther;
            }
            return NONE;
        }

        private long nextTo(long reached, int kinds, int day, Ones ones) {
            long next = 0;
            for (int i = 0; i < list.size(); i++) {
                Line line = list.get(i);
                if (((kinds >>> line.kind) & 1) != 0 && line.isInForce(day)) {
                    long things = line.ends.allThings(ones);
                    next |= (things & reached) != 0 ? things : 0;
                }
            }
            return next;
        }

        int withThing(int thing, int kind, int role, int day, Ones ones) {
            int with = 0;
            for (int i = 0; i < list.size(); i++) {
                Line line = list.get(i);
                if (line.kind == kind && line.isInForce(day)
                        && isIn(line.ends.thingsInRole(role, ones), thing)) {
                    with++;
                }
            }
            return with;
        }
    }

    /** A QUESTION; part p of an ATOM lies at atom * MOST_PARTS + p. */
    private static final class Question {
        private final int[] kinds = new int[MOST_ATOMS];
        private final boolean[] nots = new boolean[MOST_ATOMS];
        private final int[] parts = new int[MOST_ATOMS];
        /** Bit 0 for a, 1 for b, 2 for c. */
        private final int[] atomVariables = new int[MOST_ATOMS];
        private final int[] roles = new int[MOST_ATOMS * MOST_PARTS];
        /** A THING's number, or THINGS and a VARIABLE's number. */
        private final int[] terms = new int[MOST_ATOMS * MOST_PARTS];
        private int atoms;
        private int usedVariables;

        void clear() {
            atoms = 0;
            usedVariables = 0;
        }

        boolean addAtom(int kind, boolean not) {
            if (atoms >= MOST_ATOMS) {
                return false;
            }
            kinds[atoms] = kind;
            nots[atoms] = not;
            parts[atoms] = 0;
            atomVariables[atoms] = 0;
            atoms++;
            return true;
        }

        /** To the latest ATOM; false if the VARIABLE may not stand in it, or nothing more may. */
        boolean addPart(int role, int term) {
            int atom = atoms - 1;
            if (atom < 0 || parts[atom] >= MOST_PARTS) {
                return false;
            }
            if (term >= THINGS) {
                int bit = 1 << (term - THINGS);
                if (nots[atom] && (usedVariables & bit) == 0) {
                    return false;
                }
                usedVariables |= bit;
                atomVariables[atom] |= bit;
            }
            int at = atom * MOST_PARTS + parts[atom];
            roles[at] = role;
            terms[at] = term;
            parts[atom]++;
            return true;
        }

        int atoms() {
            return atoms;
        }

        int variables() {
            return Integer.bitCount(usedVariables);
        }

        boolean uses(int variable) {
            return ((usedVariables >>> variable) & 1) != 0;
        }

        boolean atomUses(int atom, int variable) {
            return ((atomVariables[atom] >>> variable) & 1) != 0;
        }

        int kind(int atom) {
            return kinds[atom];
        }

        boolean isNot(int atom) {
            return nots[atom];
        }

        int parts(int atom) {
            return parts[atom];
        }

        int role(int atom, int part) {
            return roles[atom * MOST_PARTS + part];
        }

        int term(int atom, int part) {
            return terms[atom * MOST_PARTS + part];
        }
    }

    /** Reads a QUESTION's text, token by token; where it is wrong, the latest token is the wrong one. */
    private static final class Reader {
        private static final int OVER = -1;
        private static final int NUMBER = -2;
        private static final int NOT = -3;
        private static final int NO_WORD = -4;
        /** The value of a NUMBER of more than two digits: out of all bounds. */
        private static final int TOO_GREAT = 100;

        private int at;
        private int begin;
        /** One of the above, or the byte of a sign or of a word of one letter. */
        private int token;
        private int value;

        /** Where the latest token begins; behind the last token that is the text's length. */
        int begin() {
            return begin;
        }

        boolean read(Tape text, Question into) {
            at = 0;
            into.clear();
            for (int i = 0; i < MOST_ATOMS; i++) {
                if (!readAtom(text, into)) {
                    return false;
                }
                next(text);
                if (token != ',') {
                    return token == OVER;
                }
            }
            return false;
        }

        private boolean readAtom(Tape text, Question into) {
            next(text);
            boolean not = token == NOT;
            if (not) {
                next(text);
            }
            if (token != 'k' || !readNumber(text, KINDS) || !into.addAtom(value, not)) {
                return false;
            }
            next(text);
            if (token != '(') {
                return false;
            }
            for (int i = 0; i < MOST_PARTS; i++) {
                if (!readPart(text, into)) {
                    return false;
                }
                next(text);
                if (token != ',') {
                    return token == ')';
                }
            }
            return false;
        }

        private boolean readPart(Tape text, Question into) {
            next(text);
            if (token != 'r' || !readNumber(text, ROLES)) {
                return false;
            }
            int role = value;
            next(text);
            if (token == 't') {
                return readNumber(text, THINGS) && into.addPart(role, value);
            }
            if (token < 'a' || token >= 'a' + VARIABLES) {
                return false;
            }
            return into.addPart(role, THINGS + token - 'a');
        }

        private boolean readNumber(Tape text, int bound) {
            next(text);
            return token == NUMBER && value < bound;
        }

        private void next(Tape text) {
            while (at < text.length() && text.at(at) == ' ') {
                at++;
            }
            begin = at;
            int first = text.at(at);
            if (first == NONE) {
                token = OVER;
            } else if (isLetter(first)) {
                takeWord(text);
            } else if (isDigit(first)) {
                takeNumber(text);
            } else {
                token = first;
                at++;
            }
        }

        private void takeWord(Tape text) {
            while (at < text.length() && isLetter(text.at(at))) {
                at++;
            }
            if (at - begin == 1) {
                token = text.at(begin);
            } else if (at - begin == 3 && text.at(begin) == 'n' && text.at(begin + 1) == 'o'
                    && text.at(begin + 2) == 't') {
                token = NOT;
            } else {
                token = NO_WORD;
            }
        }

        private void takeNumber(Tape text) {
            token = NUMBER;
            value = 0;
            while (at < text.length() && isDigit(text.at(at))) {
                value = at - begin < 2 ? value * 10 + text.at(at) - '0' : TOO_GREAT;
                at++;
            }
        }

        private static boolean isLetter(int sign) {
            return sign >= 'a' && sign <= 'z';
        }

        private static boolean isDigit(int sign) {
            return sign >= '0' && sign <= '9';
        }
    }

    /**
     * Finds the ANSWERS of a QUESTION on a day. A LINE that fits an ATOM makes it true for all a of a set
     * with all b of a second and all c of a third one; so all ANSWERS with one a and one b are one set of c,
     * found by a few operations on sets.
     */
    private static final class Matcher {
        /** The three sets of fit f of an ATOM begin at (atom * MOST_LINES + f) * VARIABLES. */
        private final long[] sets = new long[MOST_ATOMS * MOST_LINES * VARIABLES];
        private final int[] fits = new int[MOST_ATOMS];
        /** For the a at hand: at atom * THINGS + b those c for which there is a LINE. */
        private final long[] rows = new long[MOST_ATOMS * THINGS];
        /** Which a, b and c some LINE fits in each ATOM without not. */
        private final long[] domains = new long[VARIABLES];
        private final int[] reached = new int[VARIABLES];
        /** Never null; an empty one ahead of the first that is prepared. */
        private Question about = new Question();
        private int passed;

        void prepare(Question question, Lines lines, Ones ones, int day) {
            about = question;
            for (int atom = 0; atom < about.atoms(); atom++) {
                fits[atom] = 0;
                for (int i = 0; i < lines.size(); i++) {
                    Line line = lines.get(i);
                    if (line.kind == about.kind(atom) && line.isInForce(day)) {
                        addIfFits(atom, line.ends, ones);
                    }
                }
            }
            for (int variable = 0; variable < VARIABLES; variable++) {
                domains[variable] = domain(variable);
            }
        }

        int howMany() {
            find(MOST_ANSWERS);
            return passed;
        }

        int found(int variable) {
            return reached[variable];
        }

        /** Goes through the ANSWERS to ANSWER n; false if there are no more than n, and they are all passed. */
        boolean find(int n) {
            passed = 0;
            fillRows(0, false);
            for (int a = 0; a < THINGS; a++) {
                if (!isIn(domains[0], a)) {
                    continue;
                }
                fillRows(a, true);
                for (int b = 0; b < THINGS; b++) {
                    long set = isIn(domains[1], b) ? answersWith(b) : 0;
                    int more = Long.bitCount(set);
                    if (n - passed < more) {
                        reached[0] = a;
                        reached[1] = b;
                        reached[2] = member(set, n - passed);
                        return true;
                    }
                    passed += more;
                }
            }
            return false;
        }

        /** A VARIABLE that an ATOM has not may be any THING there. */
        private void addIfFits(int atom, Ends ends, Ones ones) {
            int at = (atom * MOST_LINES + fits[atom]) * VARIABLES;
            for (int variable = 0; variable < VARIABLES; variable++) {
                sets[at + variable] = ALL;
            }
            for (int part = 0; part < about.parts(atom); part++) {
                long inRole = ends.thingsInRole(about.role(atom, part), ones);
                int term = about.term(atom, part);
                if (term < THINGS) {
                    inRole &= 1L << ones.of(term);
                } else {
                    inRole &= sets[at + term - THINGS];
                    sets[at + term - THINGS] = inRole;
                }
                if (inRole == 0) {
                    return;
                }
            }
            fits[atom]++;
        }

        /** Of a VARIABLE that the QUESTION has not one THING alone, so that it multiplies no ANSWERS. */
        private long domain(int variable) {
            if (!about.uses(variable)) {
                return 1L;
            }
            long domain = ALL;
            for (int atom = 0; atom < about.atoms(); atom++) {
                if (about.isNot(atom)) {
                    continue;
                }
                long some = 0;
                for (int fit = 0; fit < fits[atom]; fit++) {
                    some |= sets[(atom * MOST_LINES + fit) * VARIABLES + variable];
                }
                domain &= some;
            }
            return domain;
        }

        /** Those of the ATOMS that have a VARIABLE a change with it; the others need be filled once alone. */
        private void fillRows(int a, boolean withVariable) {
            for (int atom = 0; atom < about.atoms(); atom++) {
                if (about.atomUses(atom, 0) == withVariable) {
                    fillRow(atom, a);
                }
            }
        }

        private void fillRow(int atom, int a) {
            int row = atom * THINGS;
            for (int b = 0; b < THINGS; b++) {
                rows[row + b] = 0;
            }
            for (int fit = 0; fit < fits[atom]; fit++) {
                int at = (atom * MOST_LINES + fit) * VARIABLES;
                if (!isIn(sets[at], a)) {
                    continue;
                }
                for (int b = 0; b < THINGS; b++) {
                    if (isIn(sets[at + 1], b)) {
                        rows[row + b] |= sets[at + 2];
                    }
                }
            }
        }

        private long answersWith(int b) {
            long set = domains[2];
            for (int atom = 0; atom < about.atoms(); atom++) {
                long some = rows[atom * THINGS + b];
                set &= about.isNot(atom) ? ~some : some;
            }
            return set;
        }

        private static int member(long set, int n) {
            int left = n;
            for (int thing = 0; thing < THINGS; thing++) {
                if (isIn(set, thing)) {
                    if (left == 0) {
                        return thing;
                    }
                    left--;
                }
            }
            return NONE;
        }
    }
}
