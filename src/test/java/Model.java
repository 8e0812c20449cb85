import java.util.ArrayDeque;
import java.util.ArrayList;
import java.util.Deque;
import java.util.HashMap;
import java.util.HashSet;
import java.util.List;
import java.util.Map;
import java.util.NoSuchElementException;
import java.util.Set;
import java.util.TreeMap;
import java.util.TreeSet;

/**
 * The document written a second time, as slowly and plainly as it may be, to compare LineStore with: days are
 * gone through one by one, things that are one are sets, and answers are found by trying lines and ends.
 */
final class Model {
    private record End(int role, int thing, int line) {
    }

    private static final class Joined {
        int kind;
        int from;
        int to;
        List<End> ends;
        /** The days on which it is in force. */
        final Set<Integer> days = new TreeSet<>();
    }

    private record Part(int role, String term) {
    }

    private record Atom(boolean not, int kind, List<Part> parts) {
    }

    private final List<Joined> lines = new ArrayList<>();
    private final List<End> draft = new ArrayList<>();
    private final Map<String, int[]> endLaws = new HashMap<>();
    private final Map<String, Integer> aloneLaws = new HashMap<>();
    private final Set<Integer> ending = new HashSet<>();
    private final Deque<List<Set<Integer>>> before = new ArrayDeque<>();
    private List<Set<Integer>> groups = new ArrayList<>();
    private String tape = "";
    private List<Atom> atoms = null;
    private int fault = -1;

    Model() {
        for (int thing = 0; thing < 40; thing++) {
            groups.add(new TreeSet<>(Set.of(thing)));
        }
    }

    int feed(int a, int b, int c, int d, int e) {
        if (tape.length() > 380) {
            return -1;
        }
        StringBuilder more = new StringBuilder(tape);
        for (int number : new int[] {a, b, c, d, e}) {
            more.append((char) (number >> 24 & 255)).append((char) (number >> 16 & 255));
            more.append((char) (number >> 8 & 255)).append((char) (number & 255));
        }
        tape = more.toString();
        return tape.length();
    }

    boolean end(int n) {
        if (n < 0 || tape.length() < n) {
            return false;
        }
        tape = tape.substring(0, n);
        return true;
    }

    void ends(int kind, int role, int least, int most) {
        bounds(kind, 6);
        bounds(role, 6);
        if (!(0 <= least && least <= most && most <= 6)) {
            throw new IllegalArgumentException();
        }
        endLaws.put(kind + "/" + role, new int[] {least, most});
    }

    void alone(int kind, int role, int most) {
        bounds(kind, 6);
        bounds(role, 6);
        if (!(0 <= most && most <= 100)) {
            throw new IllegalArgumentException();
        }
        aloneLaws.put(kind + "/" + role, most);
    }

    boolean holds(int kind, boolean is) {
        bounds(kind, 6);
        return is ? ending.remove(kind) : ending.add(kind);
    }

    int draft(int role, boolean line, int number) {
        bounds(role, 6);
        bounds(number, line ? lines.size() : 40);
        if (draft.size() == 6) {
            return -1;
        }
        draft.add(line ? new End(role, -1, number) : new End(role, number, -1));
        return draft.size();
    }

    int put(int kind, int from, int to) {
        bounds(kind, 6);
        if (from < 0 || to > 1000 || to < from || draft.isEmpty()) {
            throw new IllegalArgumentException();
        }
        if (lines.size() == 120) {
            throw new UnsupportedOperationException();
        }
        Joined line = new Joined();
        line.kind = kind;
        line.from = from;
        line.to = to;
        line.ends = new ArrayList<>(draft);
        for (int day = from; day <= to; day++) {
            line.days.add(day);
        }
        draft.clear();
        if (breaksEnds(line)) {
            return -1;
        }
        if (line.ends.stream().anyMatch(e -> e.line >= 0 && !lines.get(e.line).days.containsAll(line.days))) {
            return -2;
        }
        if (breaksAlone(line)) {
            return -3;
        }
        lines.add(line);
        return lines.size() - 1;
    }

    private boolean breaksEnds(Joined line) {
        for (int role = 0; role < 6; role++) {
            int asked = role;
            long has = line.ends.stream().filter(e -> e.role == asked).count();
            int[] law = endLaws.getOrDefault(line.kind + "/" + role, new int[] {0, 6});
            if (has < law[0] || has > law[1]) {
                return true;
            }
        }
        return false;
    }

    private boolean breaksAlone(Joined line) {
        for (End end : line.ends) {
            int most = aloneLaws.getOrDefault(line.kind + "/" + end.role, 0);
            if (end.thing < 0 || most == 0) {
                continue;
            }
            for (int day : line.days) {
                if (degree(end.thing, line.kind, end.role, day) + 1 > most) {
                    return true;
                }
            }
        }
        return false;
    }

    int strike(int number, int day) {
        bounds(number, lines.size());
        if (!lines.get(number).days.contains(day)) {
            return 0;
        }
        Map<Integer, Integer> struck = new TreeMap<>();
        if (!collect(number, day, struck)) {
            return 0;
        }
        struck.forEach((line, on) -> {
            lines.get(line).to = on - 1;
            lines.get(line).days.removeIf(d -> d >= on);
        });
        return struck.size();
    }

    private boolean collect(int number, int day, Map<Integer, Integer> struck) {
        struck.put(number, day);
        for (int other = 0; other < lines.size(); other++) {
            Joined line = lines.get(other);
            boolean hangs = line.ends.stream().anyMatch(e -> e.line == number);
            if (!hangs || line.days.stream().noneMatch(d -> d >= day)) {
                continue;
            }
            if (!ending.contains(lines.get(number).kind)) {
                return false;
            }
            if (!collect(other, Math.max(day, line.from), struck)) {
                return false;
            }
        }
        return true;
    }

    boolean one(int a, int b) {
        bounds(a, 40);
        bounds(b, 40);
        Set<Integer> first = group(a);
        Set<Integer> second = group(b);
        if (first == second) {
            return false;
        }
        before.push(groups);
        groups = new ArrayList<>(groups);
        groups.remove(first);
        groups.remove(second);
        Set<Integer> both = new TreeSet<>(first);
        both.addAll(second);
        groups.add(both);
        return true;
    }

    boolean part() {
        if (before.isEmpty()) {
            return false;
        }
        groups = before.pop();
        return true;
    }

    private Set<Integer> group(int thing) {
        return groups.stream().filter(g -> g.contains(thing)).findFirst().orElseThrow();
    }

    int as(int thing) {
        bounds(thing, 40);
        return group(thing).iterator().next();
    }

    int look(int number, int what) {
        bounds(number, lines.size());
        Joined line = lines.get(number);
        return switch (what) {
            case 0 -> line.kind;
            case 1 -> line.from;
            case 2 -> line.to;
            case 3 -> line.ends.size();
            case 4 -> (int) lines.stream().filter(l -> l.ends.stream().anyMatch(e -> e.line == number)).count();
            default -> throw new NoSuchElementException();
        };
    }

    int ended(int number, int i, int what) {
        bounds(number, lines.size());
        List<End> ends = lines.get(number).ends;
        if (i < 0 || i >= ends.size() || what < 0 || what > 2) {
            throw new NoSuchElementException();
        }
        return what == 0 ? ends.get(i).role : what == 1 ? ends.get(i).thing : ends.get(i).line;
    }

    int question() {
        List<Atom> read = new ArrayList<>();
        fault = parse(tape, read);
        tape = "";
        if (fault != -1) {
            throw new IllegalArgumentException();
        }
        atoms = read;
        return atoms.size();
    }

    int fault() {
        return fault;
    }

    /** What may stand next, by what stood last; each state names its own successor. */
    private enum State { ATOM, KIND, KIND_NUMBER, OPEN, ROLE, ROLE_NUMBER, TERM, THING, MORE_PARTS, MORE_ATOMS }

    private static int parse(String text, List<Atom> read) {
        State state = State.ATOM;
        boolean not = false;
        int kind = 0;
        int role = 0;
        List<Part> parts = new ArrayList<>();
        Set<String> bound = new HashSet<>();
        int at = 0;
        while (true) {
            while (at < text.length() && text.charAt(at) == ' ') {
                at++;
            }
            if (at == text.length()) {
                return state == State.MORE_ATOMS ? -1 : at;
            }
            int stop = at + 1;
            for (String run : new String[] {"[a-z]+", "[0-9]+"}) {
                while (text.substring(at, stop).matches(run) && stop < text.length()
                        && text.substring(at, stop + 1).matches(run)) {
                    stop++;
                }
            }
            String token = text.substring(at, stop);
            int number = token.matches("[0-9]{1,2}") ? Integer.parseInt(token) : 99;
            switch (state) {
                case ATOM, KIND -> {
                    if (token.equals("not") && state == State.ATOM) {
                        not = true;
                        state = State.KIND;
                    } else if (token.equals("k")) {
                        state = State.KIND_NUMBER;
                    } else {
                        return at;
                    }
                }
                case KIND_NUMBER -> {
                    if (number > 5) {
                        return at;
                    }
                    kind = number;
                    state = State.OPEN;
                }
                case OPEN -> {
                    if (!token.equals("(")) {
                        return at;
                    }
                    state = State.ROLE;
                }
                case ROLE -> {
                    if (!token.equals("r")) {
                        return at;
                    }
                    state = State.ROLE_NUMBER;
                }
                case ROLE_NUMBER -> {
                    if (number > 5) {
                        return at;
                    }
                    role = number;
                    state = State.TERM;
                }
                case TERM -> {
                    if (token.equals("t")) {
                        state = State.THING;
                    } else if (token.matches("[abc]") && !(not && !bound.contains(token))) {
                        parts.add(new Part(role, token));
                        state = State.MORE_PARTS;
                    } else {
                        return at;
                    }
                }
                case THING -> {
                    if (number > 39) {
                        return at;
                    }
                    parts.add(new Part(role, String.valueOf(number)));
                    state = State.MORE_PARTS;
                }
                case MORE_PARTS -> {
                    if (token.equals(")")) {
                        read.add(new Atom(not, kind, parts));
                        if (!not) {
                            parts.stream().map(Part::term).filter(t -> t.matches("[abc]")).forEach(bound::add);
                        }
                        not = false;
                        parts = new ArrayList<>();
                        state = State.MORE_ATOMS;
                    } else if (token.equals(",") && parts.size() < 4) {
                        state = State.ROLE;
                    } else {
                        return at;
                    }
                }
                default -> {
                    if (!token.equals(",") || read.size() == 6) {
                        return at;
                    }
                    state = State.ATOM;
                }
            }
            at = stop;
        }
    }

    /** Each answer as the things of a, b, c; -1 for a variable that the question has not. */
    private List<List<Integer>> allAnswers(int day) {
        TreeMap<String, List<Integer>> found = new TreeMap<>();
        if (atoms != null) {
            search(0, new TreeMap<>(), day, found);
        }
        return new ArrayList<>(found.values());
    }

    private void search(int next, TreeMap<String, Integer> given, int day, TreeMap<String, List<Integer>> found) {
        if (next == atoms.size()) {
            for (Atom atom : atoms) {
                if (atom.not && isTrue(atom, given, day)) {
                    return;
                }
            }
            List<Integer> answer = new ArrayList<>();
            StringBuilder order = new StringBuilder();
            for (String variable : new String[] {"a", "b", "c"}) {
                answer.add(given.getOrDefault(variable, -1));
                order.append(String.format("%03d", given.getOrDefault(variable, 0)));
            }
            found.put(order.toString(), answer);
            return;
        }
        Atom atom = atoms.get(next);
        if (atom.not) {
            search(next + 1, given, day, found);
            return;
        }
        // Bindings that two lines give alike need be followed once alone.
        Set<TreeMap<String, Integer>> bindings = new HashSet<>();
        for (Joined line : lines) {
            if (line.kind == atom.kind && line.days.contains(day)) {
                bind(atom, 0, line, given, bindings);
            }
        }
        for (TreeMap<String, Integer> more : bindings) {
            search(next + 1, more, day, found);
        }
    }

    private void bind(Atom atom, int next, Joined line, TreeMap<String, Integer> given,
            Set<TreeMap<String, Integer>> bindings) {
        if (next == atom.parts.size()) {
            bindings.add(given);
            return;
        }
        Part part = atom.parts.get(next);
        for (End end : line.ends) {
            if (end.thing < 0 || end.role != part.role) {
                continue;
            }
            int thing = as(end.thing);
            if (part.term.matches("[abc]")) {
                if (given.getOrDefault(part.term, thing) == thing) {
                    TreeMap<String, Integer> more = new TreeMap<>(given);
                    more.put(part.term, thing);
                    bind(atom, next + 1, line, more, bindings);
                }
            } else if (as(Integer.parseInt(part.term)) == thing) {
                bind(atom, next + 1, line, given, bindings);
            }
        }
    }

    private boolean isTrue(Atom atom, Map<String, Integer> given, int day) {
        for (Joined line : lines) {
            if (line.kind == atom.kind && line.days.contains(day)
                    && atom.parts.stream().allMatch(p -> line.ends.stream().anyMatch(e -> e.thing >= 0
                            && e.role == p.role && as(e.thing) == thingOf(p.term, given)))) {
                return true;
            }
        }
        return false;
    }

    private int thingOf(String term, Map<String, Integer> given) {
        return term.matches("[abc]") ? given.get(term) : as(Integer.parseInt(term));
    }

    int answers(int day) {
        return allAnswers(day).size();
    }

    int answer(int day, int n, int variable) {
        if (variable < 0 || variable > 2 || n < 0) {
            return -1;
        }
        List<List<Integer>> all = allAnswers(day);
        return n < all.size() ? all.get(n).get(variable) : -1;
    }

    /** By lines, not by things: the first lines are those that have the one thing. */
    int ways(int from, int to, int kinds, int day) {
        bounds(from, 40);
        bounds(to, 40);
        if (as(from) == as(to)) {
            return 0;
        }
        Set<Joined> seen = new HashSet<>();
        List<Joined> last = new ArrayList<>();
        for (Joined line : lines) {
            if (line.days.contains(day) && (kinds & 1 << line.kind) != 0 && things(line).contains(as(from))) {
                last.add(line);
            }
        }
        for (int length = 1; !last.isEmpty(); length++) {
            seen.addAll(last);
            List<Joined> next = new ArrayList<>();
            for (Joined line : last) {
                if (things(line).contains(as(to))) {
                    return length;
                }
                for (Joined other : lines) {
                    Set<Integer> common = things(other);
                    common.retainAll(things(line));
                    if (other.days.contains(day) && (kinds & 1 << other.kind) != 0 && !common.isEmpty()
                            && !seen.contains(other) && !next.contains(other)) {
                        next.add(other);
                    }
                }
            }
            last = next;
        }
        return -1;
    }

    private Set<Integer> things(Joined line) {
        Set<Integer> things = new TreeSet<>();
        line.ends.stream().filter(e -> e.thing >= 0).forEach(e -> things.add(as(e.thing)));
        return things;
    }

    int degree(int thing, int kind, int role, int day) {
        bounds(thing, 40);
        bounds(kind, 6);
        bounds(role, 6);
        int counted = as(thing);
        return (int) lines.stream().filter(l -> l.kind == kind && l.days.contains(day)
                && l.ends.stream().anyMatch(e -> e.role == role && e.thing >= 0 && as(e.thing) == counted)).count();
    }

    int count(int what) {
        return switch (what) {
            case 0 -> lines.size();
            case 1 -> draft.size();
            case 2 -> before.size();
            case 3 -> groups.size();
            case 4 -> atoms == null ? 0 : atoms.size();
            case 5 -> atoms == null ? 0 : (int) atoms.stream().flatMap(a -> a.parts.stream()).map(Part::term)
                    .filter(t -> t.matches("[abc]")).distinct().count();
            default -> -1;
        };
    }

    private static void bounds(int number, int bound) {
        if (number < 0 || number >= bound) {
            throw new IndexOutOfBoundsException();
        }
    }
}
