import java.util.NoSuchElementException;

/** Each promise of the document: ordinary inputs, the edges that it names, and wrong inputs. */
public final class PromiseTest {
    private static final Checker CHECK = new Checker();
    private static final Class<IndexOutOfBoundsException> BOUNDS = IndexOutOfBoundsException.class;
    private static final Class<IllegalArgumentException> ARGUMENT = IllegalArgumentException.class;
    private static final Class<NoSuchElementException> ELEMENT = NoSuchElementException.class;
    private static final Class<UnsupportedOperationException> FULL = UnsupportedOperationException.class;
    private static final int[] NOT_SIX = {-1, 6, Integer.MIN_VALUE, Integer.MAX_VALUE};
    private static final int[] NOT_FORTY = {-1, 40, Integer.MIN_VALUE, Integer.MAX_VALUE};

    private PromiseTest() {
    }

    public static void main(String[] args) {
        CHECK.runAll(PromiseTest::newObject, PromiseTest::feed, PromiseTest::end, PromiseTest::ends,
                PromiseTest::alone, PromiseTest::aloneByDaysAndOnes, PromiseTest::holds, PromiseTest::draft,
                PromiseTest::put, PromiseTest::refusalsInOrder, PromiseTest::linesOnLines, PromiseTest::strike,
                PromiseTest::strikeLater, PromiseTest::strikeAllOrNothing, PromiseTest::one, PromiseTest::part,
                PromiseTest::as, PromiseTest::look, PromiseTest::ended, PromiseTest::question, PromiseTest::faults,
                PromiseTest::faultsOfLimits, PromiseTest::faultsOfVariables, PromiseTest::answers,
                PromiseTest::answersOfNot, PromiseTest::answersOfOnes, PromiseTest::answer, PromiseTest::ways,
                PromiseTest::degree, PromiseTest::count, PromiseTest::allThatFits);
        CHECK.finish();
    }

    private static void newObject() {
        CHECK.topic("1 a new object");
        LineStore x = new LineStore();
        CHECK.same("count(0)", x.count(0), 0);
        CHECK.same("count(1)", x.count(1), 0);
        CHECK.same("count(2)", x.count(2), 0);
        CHECK.same("count(3)", x.count(3), 40);
        CHECK.same("count(4)", x.count(4), 0);
        CHECK.same("count(5)", x.count(5), 0);
        for (int thing = 0; thing < 40; thing++) {
            CHECK.same("as(" + thing + ")", x.as(thing), thing);
        }
        LineStore y = new LineStore();
        for (int kind = 0; kind < 6; kind++) {
            CHECK.same("holds(" + kind + ", true)", y.holds(kind, true), false);
            for (int role = 0; role < 6; role++) {
                String six = (role + ":1 ").repeat(6).trim();
                CHECK.same("a line of six ends", Steps.put(y, kind, 0, 1000, six), 2 * (kind * 6 + role));
                CHECK.same("a second one", Steps.put(y, kind, 0, 1000, six), 2 * (kind * 6 + role) + 1);
            }
        }
        CHECK.same("another object has no lines", new LineStore().count(0), 0);
        CHECK.same("NONE", LineStore.NONE, -1);
    }

    private static void feed() {
        CHECK.topic("2 feed");
        LineStore x = new LineStore();
        for (int i = 1; i <= 20; i++) {
            CHECK.same("feed " + i, x.feed(0, 0, 0, 0, 0), 20 * i);
        }
        CHECK.same("a 21st feed", x.feed(1, 2, 3, 4, 5), -1);
        CHECK.same("it left 400", x.end(400), true);
        CHECK.same("end(381)", x.end(381), true);
        CHECK.same("feed to 401", x.feed(1, 2, 3, 4, 5), -1);
        CHECK.same("still 381", x.end(382), false);
        CHECK.same("end(380)", x.end(380), true);
        CHECK.same("feed to 400", x.feed(0, 0, 0, 0, 0), 400);

        LineStore y = new LineStore();
        CHECK.same("bytes in order", Texts.ask(y, "k0(r1a,r2b,r3c,r4t12)"), 1);
        y.feed(0x6b302872, 0x30206129, 0x80ffffff, 0, 0);
        CHECK.same("end(9)", y.end(9), true);
        CHECK.fails("a byte 128", ARGUMENT, () -> y.question());
        CHECK.same("it is the wrong one", y.fault(), 8);
    }

    private static void end() {
        CHECK.topic("3 end");
        LineStore x = new LineStore();
        CHECK.same("end(0) of none", x.end(0), true);
        CHECK.same("end(1) of none", x.end(1), false);
        x.feed(0, 0, 0, 0, 0);
        CHECK.same("end(21) of 20", x.end(21), false);
        CHECK.same("end(-1)", x.end(-1), false);
        CHECK.same("end(least)", x.end(Integer.MIN_VALUE), false);
        CHECK.same("end(most)", x.end(Integer.MAX_VALUE), false);
        CHECK.same("end(20) of 20", x.end(20), true);
        CHECK.same("end(7)", x.end(7), true);
        CHECK.same("end(8) of 7", x.end(8), false);
        CHECK.same("feed behind 7", x.feed(0, 0, 0, 0, 0), 27);
    }

    private static void ends() {
        CHECK.topic("4 ends");
        LineStore x = new LineStore();
        for (int wrong : NOT_SIX) {
            CHECK.fails("ends of kind " + wrong, BOUNDS, () -> Steps.ends(x, wrong, 0, 7, 0));
            CHECK.fails("ends of role " + wrong, BOUNDS, () -> Steps.ends(x, 0, wrong, 7, 0));
        }
        CHECK.fails("ends(0, 0, -1, 3)", ARGUMENT, () -> Steps.ends(x, 0, 0, -1, 3));
        CHECK.fails("ends(0, 0, 3, 2)", ARGUMENT, () -> Steps.ends(x, 0, 0, 3, 2));
        CHECK.fails("ends(0, 0, 3, 7)", ARGUMENT, () -> Steps.ends(x, 0, 0, 3, 7));
        CHECK.fails("ends(0, 0, 7, 7)", ARGUMENT, () -> Steps.ends(x, 0, 0, 7, 7));
        CHECK.same("a law that was thrown at changed nothing", Steps.put(x, 0, 0, 9, "0:1"), 0);
        x.ends(5, 5, 2, 3);
        CHECK.same("one end", Steps.put(x, 5, 0, 9, "5:1"), -1);
        CHECK.same("two ends", Steps.put(x, 5, 0, 9, "5:1 5:1"), 1);
        CHECK.same("three ends, one a line", Steps.put(x, 5, 0, 9, "5:1 5:2 5:L0"), 2);
        CHECK.same("four ends", Steps.put(x, 5, 0, 9, "5:1 5:2 5:3 5:4"), -1);
        CHECK.same("no ends in the role", Steps.put(x, 5, 0, 9, "0:1"), -1);
        CHECK.same("another kind", Steps.put(x, 4, 0, 9, "5:1"), 3);
        CHECK.same("other roles beside", Steps.put(x, 5, 0, 9, "5:1 0:3 5:1"), 4);
        x.ends(5, 5, 6, 6);
        CHECK.same("six of six", Steps.put(x, 5, 0, 9, "5:1 5:1 5:1 5:1 5:1 5:1"), 5);
        x.ends(5, 5, 0, 0);
        CHECK.same("none may be", Steps.put(x, 5, 0, 9, "5:1"), -1);
        CHECK.same("none is", Steps.put(x, 5, 0, 9, "4:1"), 6);
        CHECK.same("lines of an older law stay", x.look(5, 2), 9);
        x.ends(3, 0, 1, 1);
        CHECK.same("role 0: none", Steps.put(x, 3, 0, 9, "1:1"), -1);
        CHECK.same("role 0: two", Steps.put(x, 3, 0, 9, "0:1 0:2"), -1);
        CHECK.same("role 0: one", Steps.put(x, 3, 0, 9, "0:1 1:2"), 7);
    }

    private static void alone() {
        CHECK.topic("5 alone");
        LineStore x = new LineStore();
        for (int wrong : NOT_SIX) {
            CHECK.fails("alone of kind " + wrong, BOUNDS, () -> Steps.alone(x, wrong, 0, -1));
            CHECK.fails("alone of role " + wrong, BOUNDS, () -> Steps.alone(x, 0, wrong, 101));
        }
        CHECK.fails("alone(0, 0, -1)", ARGUMENT, () -> Steps.alone(x, 0, 0, -1));
        CHECK.fails("alone(0, 0, 101)", ARGUMENT, () -> Steps.alone(x, 0, 0, 101));
        CHECK.same("alone(0, 0, 100)", Checker.outcome(() -> Steps.alone(x, 0, 0, 100)), "made");
        for (int i = 0; i < 100; i++) {
            CHECK.same("line " + i + " of 100", Steps.put(x, 0, 5, 6, "0:1"), i);
        }
        CHECK.same("line 101", Steps.put(x, 0, 5, 6, "0:1"), -3);
        x.alone(0, 0, 0);
        CHECK.same("0 is any", Steps.put(x, 0, 5, 6, "0:1"), 100);
        x.alone(0, 0, 2);
        CHECK.same("by the new law", Steps.put(x, 0, 5, 6, "0:1"), -3);
        CHECK.same("another thing", Steps.put(x, 0, 5, 6, "0:2"), 101);
        CHECK.same("another role", Steps.put(x, 0, 5, 6, "1:1"), 102);
        CHECK.same("another kind", Steps.put(x, 1, 5, 6, "0:1"), 103);
    }

    private static void aloneByDaysAndOnes() {
        CHECK.topic("5 alone, by days and by what is one");
        LineStore x = new LineStore();
        x.alone(2, 3, 2);
        CHECK.same("0 to 4", Steps.put(x, 2, 0, 4, "3:7"), 0);
        CHECK.same("6 to 9", Steps.put(x, 2, 6, 9, "3:7"), 1);
        CHECK.same("0 to 20, never three at once", Steps.put(x, 2, 0, 20, "3:7"), 2);
        CHECK.same("day 5 alone", Steps.put(x, 2, 5, 5, "3:7"), 3);
        CHECK.same("day 5 again", Steps.put(x, 2, 5, 5, "3:7"), -3);
        CHECK.same("4 to 6", Steps.put(x, 2, 4, 6, "3:7"), -3);
        CHECK.same("9 to 30", Steps.put(x, 2, 9, 30, "3:7"), -3);
        CHECK.same("10 to 30", Steps.put(x, 2, 10, 30, "3:7"), 4);
        CHECK.same("twice in one line counts once", Steps.put(x, 2, 21, 30, "3:7 3:7"), 5);
        CHECK.same("a line is no thing", Steps.put(x, 2, 0, 4, "3:L0"), 6);
        CHECK.same("one(7, 30)", x.one(7, 30), true);
        CHECK.same("what is one with it", Steps.put(x, 2, 0, 0, "3:30"), -3);
        CHECK.same("in another role", Steps.put(x, 2, 0, 0, "2:30"), 7);
        x.part();
        CHECK.same("what is one no more", Steps.put(x, 2, 0, 0, "3:30"), 8);
        CHECK.same("both, not one", Steps.put(x, 2, 0, 0, "3:30"), 9);
        x.strike(2, 0);
        CHECK.same("a line that was struck counts no more", Steps.put(x, 2, 0, 20, "3:7"), 10);
        CHECK.same("the second end is looked at, too", Steps.put(x, 2, 0, 20, "3:8 3:7"), -3);
        x.alone(1, 0, 1);
        CHECK.same("100 to 200", Steps.put(x, 1, 100, 200, "0:1"), 11);
        CHECK.same("begun before and still in force", Steps.put(x, 1, 150, 300, "0:1"), -3);
        CHECK.same("within it", Steps.put(x, 1, 150, 160, "0:1"), -3);
        CHECK.same("around it", Steps.put(x, 1, 50, 300, "0:1"), -3);
        CHECK.same("up to it", Steps.put(x, 1, 50, 99, "0:1"), 12);
        CHECK.same("behind it", Steps.put(x, 1, 201, 300, "0:1"), 13);
    }

    private static void holds() {
        CHECK.topic("6 holds");
        LineStore x = new LineStore();
        for (int wrong : NOT_SIX) {
            CHECK.fails("holds of kind " + wrong, BOUNDS, () -> x.holds(wrong, true));
        }
        CHECK.same("holds(5, true) at first", x.holds(5, true), false);
        CHECK.same("holds(5, false)", x.holds(5, false), true);
        CHECK.same("holds(5, false) again", x.holds(5, false), false);
        CHECK.same("holds(4, false)", x.holds(4, false), true);
        CHECK.same("holds(4, true)", x.holds(4, true), true);
        Steps.put(x, 5, 0, 9, "0:1");
        Steps.put(x, 4, 0, 9, "0:L0");
        Steps.put(x, 5, 0, 9, "0:L1");
        CHECK.same("line 1 is held by line 2", x.strike(0, 5), 0);
        CHECK.same("and so by itself", x.strike(1, 5), 0);
        x.holds(4, false);
        CHECK.same("the kind ends now", x.strike(0, 5), 3);
        x.holds(5, true);
        CHECK.same("the kind holds again", x.strike(0, 3), 0);
    }

    private static void draft() {
        CHECK.topic("7 draft");
        LineStore x = new LineStore();
        for (int wrong : NOT_SIX) {
            CHECK.fails("draft of role " + wrong, BOUNDS, () -> x.draft(wrong, false, 0));
        }
        for (int wrong : NOT_FORTY) {
            CHECK.fails("draft of thing " + wrong, BOUNDS, () -> x.draft(0, false, wrong));
        }
        CHECK.fails("draft of line 0 without one", BOUNDS, () -> x.draft(0, true, 0));
        CHECK.fails("draft of line -1", BOUNDS, () -> x.draft(0, true, -1));
        CHECK.same("none came", x.count(1), 0);
        CHECK.same("thing 39 in role 5", x.draft(5, false, 39), 1);
        x.put(0, 0, 0);
        CHECK.same("line 0", x.draft(5, true, 0), 1);
        CHECK.fails("line 1", BOUNDS, () -> x.draft(0, true, 1));
        for (int i = 2; i <= 6; i++) {
            CHECK.same("end " + i, x.draft(0, false, 0), i);
        }
        CHECK.same("a 7th", x.draft(0, false, 0), -1);
        CHECK.fails("a 7th of a wrong thing", BOUNDS, () -> x.draft(0, false, 40));
        CHECK.same("count(1)", x.count(1), 6);
        CHECK.same("the 7th did not come", x.look(x.put(1, 0, 0), 3), 6);
        Steps.put(x, 1, 0, 0, "0:1");
        x.strike(2, 0);
        CHECK.same("a line that was struck is there", x.draft(0, true, 2), 1);
    }

    private static void put() {
        CHECK.topic("8 put");
        LineStore x = new LineStore();
        for (int wrong : NOT_SIX) {
            CHECK.fails("put of kind " + wrong + " ahead of all", BOUNDS, () -> x.put(wrong, 5, 4));
        }
        CHECK.fails("without ends", ARGUMENT, () -> x.put(0, 0, 0));
        x.draft(0, false, 0);
        CHECK.fails("put(0, -1, 0)", ARGUMENT, () -> x.put(0, -1, 0));
        CHECK.fails("put(0, 5, 4)", ARGUMENT, () -> x.put(0, 5, 4));
        CHECK.fails("put(0, 0, 1001)", ARGUMENT, () -> x.put(0, 0, 1001));
        CHECK.fails("put(0, 1001, 1001)", ARGUMENT, () -> x.put(0, 1001, 1001));
        CHECK.same("the draft stands", x.count(1), 1);
        CHECK.same("put(0, 0, 1000)", x.put(0, 0, 1000), 0);
        CHECK.same("the draft is used", x.count(1), 0);
        CHECK.fails("put again", ARGUMENT, () -> x.put(0, 0, 1000));
        CHECK.same("put(5, 1000, 1000)", Steps.put(x, 5, 1000, 1000, "0:0"), 1);
        for (int i = 2; i < 120; i++) {
            CHECK.same("line " + i, Steps.put(x, 1, i, i, "0:0"), i);
        }
        CHECK.fails("wrong days ahead of too many", ARGUMENT, () -> {
            x.draft(0, false, 0);
            return x.put(0, 5, 4);
        });
        CHECK.fails("no such kind ahead of too many", BOUNDS, () -> x.put(6, 0, 0));
        CHECK.fails("line 120", FULL, () -> x.put(0, 0, 0));
        CHECK.same("the draft still stands", x.count(1), 1);
        CHECK.same("count(0)", x.count(0), 120);
        x.ends(0, 0, 0, 0);
        CHECK.fails("too many ahead of refused", FULL, () -> x.put(0, 0, 0));
    }

    private static void refusalsInOrder() {
        CHECK.topic("8 put, refused");
        LineStore x = new LineStore();
        Steps.put(x, 0, 5, 9, "0:1");
        x.alone(0, 0, 1);
        x.ends(0, 1, 0, 1);
        CHECK.same("all three", Steps.put(x, 0, 4, 9, "0:1 1:L0 1:2"), -1);
        CHECK.same("the second and the third", Steps.put(x, 0, 4, 9, "0:1 1:L0"), -2);
        CHECK.same("the third", Steps.put(x, 0, 5, 9, "0:1 1:L0"), -3);
        CHECK.same("none is left of the draft", x.count(1), 0);
        CHECK.same("no line came", x.count(0), 1);
        CHECK.same("none of them", Steps.put(x, 0, 5, 9, "0:2 1:L0"), 1);
    }

    private static void linesOnLines() {
        CHECK.topic("8 put, on lines");
        LineStore x = new LineStore();
        Steps.put(x, 0, 5, 9, "0:1");
        CHECK.same("one day earlier", Steps.put(x, 0, 4, 9, "0:L0"), -2);
        CHECK.same("one day later", Steps.put(x, 0, 5, 10, "0:L0"), -2);
        CHECK.same("the same days", Steps.put(x, 0, 5, 9, "0:L0"), 1);
        CHECK.same("one of its days", Steps.put(x, 0, 9, 9, "0:3 0:L0"), 2);
        Steps.put(x, 0, 0, 3, "0:1");
        CHECK.same("the second end is looked at, too", Steps.put(x, 0, 5, 6, "0:L0 0:L3"), -2);
        x.draft(0, true, 3);
        x.strike(3, 2);
        CHECK.same("struck behind the draft", x.put(0, 1, 2), -2);
        CHECK.same("up to the day before", Steps.put(x, 0, 1, 1, "0:L3"), 4);
        x.strike(4, 1);
        CHECK.same("never in force", Steps.put(x, 0, 1, 1, "0:L4"), -2);
        CHECK.same("never in force, the day before", Steps.put(x, 0, 0, 0, "0:L4"), -2);
    }

    private static void strike() {
        CHECK.topic("9 strike");
        LineStore x = new LineStore();
        CHECK.fails("strike of line 0 without one", BOUNDS, () -> x.strike(0, 0));
        Steps.put(x, 0, 5, 9, "0:1");
        CHECK.fails("strike of line -1", BOUNDS, () -> x.strike(-1, 5));
        CHECK.fails("strike of line 1", BOUNDS, () -> x.strike(1, 5));
        CHECK.same("the day before its first", x.strike(0, 4), 0);
        CHECK.same("the day behind its last", x.strike(0, 10), 0);
        CHECK.same("a day that is none", x.strike(0, -7), 0);
        CHECK.same("nothing happened", x.look(0, 2), 9);
        CHECK.same("its last day", x.strike(0, 9), 1);
        CHECK.same("last day", x.look(0, 2), 8);
        CHECK.same("the day is its own no more", x.strike(0, 9), 0);
        CHECK.same("its first day", x.strike(0, 5), 1);
        CHECK.same("never", x.look(0, 2), 4);
        CHECK.same("the first day stays", x.look(0, 1), 5);
        CHECK.same("no day is its own", x.strike(0, 5), 0);
        CHECK.same("nor the one before", x.strike(0, 4), 0);
        CHECK.same("it keeps its number", x.count(0), 1);
        Steps.put(x, 0, 3, 9, "0:1");
        Steps.put(x, 0, 3, 5, "0:L1");
        CHECK.same("held on day 5", x.strike(1, 5), 0);
        CHECK.same("not held on day 6", x.strike(1, 6), 1);
        CHECK.same("what hung is not struck", x.look(2, 2), 5);
    }

    private static void strikeLater() {
        CHECK.topic("9 strike, what hangs and begins later or never");
        LineStore x = new LineStore();
        x.holds(0, false);
        Steps.put(x, 0, 0, 20, "0:1");
        Steps.put(x, 1, 10, 20, "0:L0 1:L0");
        Steps.put(x, 2, 0, 3, "0:L0");
        CHECK.same("struck with what begins later", x.strike(0, 5), 2);
        CHECK.same("on its own first day", x.look(1, 2), 9);
        CHECK.same("the line itself", x.look(0, 2), 4);
        CHECK.same("what was over before", x.look(2, 2), 3);
        CHECK.same("what is never in force is struck no more", x.strike(0, 4), 1);
        x.holds(0, true);
        Steps.put(x, 0, 0, 20, "0:1");
        Steps.put(x, 1, 10, 20, "0:L3");
        CHECK.same("held by what begins later", x.strike(3, 5), 0);
        CHECK.same("struck on its first day", x.strike(4, 10), 1);
        CHECK.same("what is never in force holds nothing", x.strike(3, 5), 1);
        Steps.put(x, 0, 0, 20, "0:1");
        Steps.put(x, 1, 10, 10, "0:L5");
        CHECK.same("held by one day", x.strike(5, 10), 0);
        CHECK.same("not behind it", x.strike(5, 11), 1);
        LineStore y = new LineStore();
        y.holds(0, false);
        Steps.put(y, 0, 0, 20, "0:1");
        for (int line = 1; line < 120; line++) {
            Steps.put(y, 0, 0, 20, "0:L" + (line - 1));
        }
        CHECK.same("a chain of all lines", y.strike(0, 20), 120);
        CHECK.same("the last of them", y.look(119, 2), 19);
        CHECK.same("its upper half", y.strike(60, 7), 60);
        CHECK.same("the lower half stands", y.look(59, 2), 19);
    }

    private static void strikeAllOrNothing() {
        CHECK.topic("9 strike, all or nothing");
        LineStore x = new LineStore();
        x.holds(0, false);
        Steps.put(x, 0, 0, 9, "0:1");
        Steps.put(x, 0, 0, 9, "0:L0");
        Steps.put(x, 1, 0, 9, "0:L0");
        Steps.put(x, 2, 0, 9, "0:L1 1:L2");
        CHECK.same("one of four is held", x.strike(0, 5), 0);
        for (int line = 0; line < 4; line++) {
            CHECK.same("line " + line + " is as it was", x.look(line, 2), 9);
        }
        x.holds(1, false);
        CHECK.same("a line that hangs on two of them counts once", x.strike(0, 5), 4);
        for (int line = 0; line < 4; line++) {
            CHECK.same("line " + line + " is struck", x.look(line, 2), 4);
        }
        CHECK.same("a strike goes to what hangs alone", x.strike(2, 3), 2);
        CHECK.same("not to what it hangs on", x.look(0, 2), 4);
        CHECK.same("nor beside", x.look(1, 2), 4);
        CHECK.same("the rest", x.strike(0, 0), 4);
    }

    private static void one() {
        CHECK.topic("10 one");
        LineStore x = new LineStore();
        for (int wrong : NOT_FORTY) {
            CHECK.fails("one(" + wrong + ", 0)", BOUNDS, () -> x.one(wrong, 0));
            CHECK.fails("one(0, " + wrong + ")", BOUNDS, () -> x.one(0, wrong));
        }
        CHECK.same("one(3, 3)", x.one(3, 3), false);
        CHECK.same("one(9, 5)", x.one(9, 5), true);
        CHECK.same("one(5, 9)", x.one(5, 9), false);
        CHECK.same("one(7, 8)", x.one(7, 8), true);
        CHECK.same("one(8, 9)", x.one(8, 9), true);
        CHECK.same("one(7, 5)", x.one(7, 5), false);
        for (int thing : new int[] {5, 7, 8, 9}) {
            CHECK.same("as(" + thing + ")", x.as(thing), 5);
        }
        CHECK.same("as(6)", x.as(6), 6);
        CHECK.same("one(9, 2)", x.one(9, 2), true);
        CHECK.same("as(8)", x.as(8), 2);
        LineStore y = new LineStore();
        for (int thing = 39; thing > 0; thing--) {
            CHECK.same("one(" + thing + ", " + (thing - 1) + ")", y.one(thing, thing - 1), true);
        }
        CHECK.same("all are one", y.as(39), 0);
        CHECK.same("and can be made one no more", y.one(39, 17), false);
    }

    private static void part() {
        CHECK.topic("11 part");
        LineStore x = new LineStore();
        CHECK.same("part() of none", x.part(), false);
        x.one(5, 9);
        x.one(2, 3);
        x.one(3, 9);
        x.one(9, 2);
        CHECK.same("as(9)", x.as(9), 2);
        CHECK.same("part() of the last that was made", x.part(), true);
        CHECK.same("as(9) then", x.as(9), 5);
        CHECK.same("as(5) then", x.as(5), 5);
        CHECK.same("as(3) then", x.as(3), 2);
        CHECK.same("part() of 2 and 3", x.part(), true);
        CHECK.same("as(3) at last", x.as(3), 3);
        CHECK.same("as(9) still", x.as(9), 5);
        x.one(0, 9);
        CHECK.same("made one anew", x.as(5), 0);
        CHECK.same("part()", x.part(), true);
        CHECK.same("part() of 5 and 9", x.part(), true);
        CHECK.same("as(9) alone", x.as(9), 9);
        CHECK.same("part() of no more", x.part(), false);
    }

    private static void as() {
        CHECK.topic("12 as");
        LineStore x = new LineStore();
        for (int wrong : NOT_FORTY) {
            CHECK.fails("as(" + wrong + ")", BOUNDS, () -> x.as(wrong));
        }
        x.one(39, 0);
        CHECK.same("as(39)", x.as(39), 0);
        CHECK.same("as(0)", x.as(0), 0);
        CHECK.same("as(38)", x.as(38), 38);
    }

    private static void look() {
        CHECK.topic("13 look");
        LineStore x = new LineStore();
        CHECK.fails("look(0, 0) without a line", BOUNDS, () -> x.look(0, 0));
        Steps.put(x, 4, 10, 20, "0:1 1:2 2:3");
        CHECK.fails("look(-1, 9)", BOUNDS, () -> x.look(-1, 9));
        CHECK.fails("look(1, 9)", BOUNDS, () -> x.look(1, 9));
        CHECK.fails("look(0, 5)", ELEMENT, () -> x.look(0, 5));
        CHECK.fails("look(0, -1)", ELEMENT, () -> x.look(0, -1));
        CHECK.same("kind", x.look(0, 0), 4);
        CHECK.same("first day", x.look(0, 1), 10);
        CHECK.same("last day", x.look(0, 2), 20);
        CHECK.same("ends", x.look(0, 3), 3);
        CHECK.same("what hangs on it", x.look(0, 4), 0);
        Steps.put(x, 3, 10, 11, "0:L0 1:L0");
        Steps.put(x, 3, 10, 11, "0:L1");
        Steps.put(x, 3, 10, 11, "5:L0");
        CHECK.same("two hang on it", x.look(0, 4), 2);
        x.strike(3, 10);
        CHECK.same("one of them never in force", x.look(0, 4), 2);
        CHECK.same("never", x.look(3, 2), 9);
        Steps.put(x, 0, 0, 5, "0:1");
        x.strike(4, 0);
        CHECK.same("never, below all days", x.look(4, 2), -1);
    }

    private static void ended() {
        CHECK.topic("14 ended");
        LineStore x = new LineStore();
        CHECK.fails("ended(0, 0, 0) without a line", BOUNDS, () -> x.ended(0, 0, 0));
        Steps.put(x, 0, 0, 9, "5:39");
        Steps.put(x, 0, 0, 9, "4:L0 3:7 4:7");
        CHECK.fails("ended(2, 9, 9)", BOUNDS, () -> x.ended(2, 9, 9));
        CHECK.fails("ended(-1, 9, 9)", BOUNDS, () -> x.ended(-1, 9, 9));
        CHECK.fails("ended(1, 3, 0)", ELEMENT, () -> x.ended(1, 3, 0));
        CHECK.fails("ended(1, -1, 0)", ELEMENT, () -> x.ended(1, -1, 0));
        CHECK.fails("ended(1, 0, 3)", ELEMENT, () -> x.ended(1, 0, 3));
        CHECK.fails("ended(1, 0, -1)", ELEMENT, () -> x.ended(1, 0, -1));
        CHECK.same("ended(0, 0, 0)", x.ended(0, 0, 0), 5);
        CHECK.same("ended(0, 0, 1)", x.ended(0, 0, 1), 39);
        CHECK.same("ended(0, 0, 2)", x.ended(0, 0, 2), -1);
        CHECK.same("ended(1, 0, 0)", x.ended(1, 0, 0), 4);
        CHECK.same("ended(1, 0, 1)", x.ended(1, 0, 1), -1);
        CHECK.same("ended(1, 0, 2)", x.ended(1, 0, 2), 0);
        CHECK.same("ended(1, 1, 0)", x.ended(1, 1, 0), 3);
        CHECK.same("ended(1, 1, 1)", x.ended(1, 1, 1), 7);
        CHECK.same("ended(1, 2, 0)", x.ended(1, 2, 0), 4);
        x.one(7, 1);
        CHECK.same("as it was told", x.ended(1, 1, 1), 7);
        x.draft(0, false, 1);
        CHECK.same("a later draft changes no line", x.ended(1, 0, 2), 0);
    }

    private static void question() {
        CHECK.topic("15 question");
        LineStore x = new LineStore();
        CHECK.fails("of no bytes", ARGUMENT, () -> x.question());
        CHECK.same("one atom", Texts.ask(x, "k0(r0a)"), 1);
        CHECK.same("the tape is used up", x.end(1), false);
        CHECK.same("blanks between all", Texts.ask(x, "  not  k 5 ( r 5 t 39 , r 00 t 07 ) , k 05 ( r 1 c )  "), 2);
        CHECK.same("its atoms", x.count(4), 2);
        CHECK.same("its variables", x.count(5), 1);
        Texts.feed(x, "k0(r0 a) k0");
        CHECK.fails("a wrong text", ARGUMENT, () -> x.question());
        CHECK.same("the tape is used up by it, too", x.end(1), false);
        CHECK.same("the one before stands", x.count(4), 2);
        CHECK.same("with its variables", x.count(5), 1);
        CHECK.same("six atoms of four parts",
                Texts.ask(x, ("k0(r0a,r1b,r2c,r3t4),".repeat(6)).substring(0, 125)), 6);
        Steps.put(x, 0, 0, 9, "0:1 1:2 2:3 3:4");
        CHECK.same("and its answer", x.answers(0), 1);
        Texts.feed(x, "k1(r1a,r1b,r1c");
        CHECK.fails("a wrong text that is nearly whole", ARGUMENT, () -> x.question());
        CHECK.same("the same answer", x.answers(0), 1);
        CHECK.same("the same variable", x.answer(0, 0, 2), 3);
    }

    private static void faults() {
        CHECK.topic("16 fault");
        LineStore x = new LineStore();
        CHECK.same("ahead of any", x.fault(), -1);
        String[] texts = {"", "   ", "k", "k ", "kk0", "K0", "no", "not", "not ", "nots k0", "not not k0", "5", "(", ",",
            "k0", "k6", "k 7", "k00", "k000", "k06", "k10", "ka", "k a", "k(", "k0(", "k0 )", "k0k", "k0()", "k0(,",
            "k0(r", "k0(r6", "k0(r05", "k0(r005", "k0(ra", "k0(a", "k0(t1", "k0(rr0", "k0(r0", "k0(r0,", "k0(r0)",
            "k0(r0 0", "k0(r0d", "k0(r0ab", "k0(r0k", "k0(r0r", "k0(r0t", "k0(r0t40", "k0(r0t39", "k0(r0t039",
            "k0(r0t 4 0", "k0(r0tt4", "k0(r0a", "k0(r0aB)", "k0(r0a b", "k0(r0a,", "k0(r0a,,", "k0(r0a)", "k0(r0a) ",
            "k0(r0a))", "k0(r0a),", "k0(r0a), ", "k0(r0a),,", "k0(r0a)k0(r0a)", "k0(r0a) not", "k0(r0a),r0",
            "k0(r0z", "z0", "not5", "k0(r0a)z", "\tk0(r0a)", "k0\n(r0a)", "k0(r0a)\0", "k0(r0a)\u00e9", "k0(r0a).",
            "k0(r-1a)", "k0(r0t99999999999"};
        int[] due = {0, 3, 1, 2, 0, 0, 0, 3, 4, 0, 4, 0, 0, 0,
            2, 1, 2, 3, 1, 1, 1, 0, 2, 1, 3, 3, 2, 3, 3,
            4, 4, 6, 4, 3, 3, 3, 3, 5, 5, 5,
            6, 5, 5, 5, 5, 6, 6, 8, 6,
            9, 5, 6, 6, 7, 7, 7, -1, -1,
            7, 8, 9, 8, 7, 8, 8,
            5, 0, 3, 7, 0, 2, 7, 7, 7, 4, 6};
        CHECK.same("as many texts as faults", texts.length, due.length);
        for (int i = 0; i < texts.length && i < due.length; i++) {
            CHECK.same("fault of '" + texts[i] + "'", Texts.fault(x, texts[i]), due[i]);
        }
        CHECK.same("NONE behind a right one", Texts.fault(x, "k0(r0a)"), -1);
    }

    private static void faultsOfLimits() {
        CHECK.topic("16 fault, limits");
        LineStore x = new LineStore();
        String six = "k0(r0a),".repeat(5) + "k0(r0a)";
        CHECK.same("six atoms", Texts.fault(x, six), -1);
        CHECK.same("a comma behind six", Texts.fault(x, six + ","), 47);
        CHECK.same("a seventh", Texts.fault(x, six + " , k0(r0a)"), 48);
        CHECK.same("something else behind six", Texts.fault(x, six + " x"), 48);
        String four = "k0(r0a,r0a,r0a,r0a";
        CHECK.same("four parts", Texts.fault(x, four + ")"), -1);
        CHECK.same("a comma behind four", Texts.fault(x, four + ","), 18);
        CHECK.same("a fifth", Texts.fault(x, four + " ,r0a)"), 19);
        CHECK.same("four parts without an end", Texts.fault(x, four), 18);
        CHECK.same("400 bytes", Texts.fault(x, " ".repeat(393) + "k0(r0a)"), -1);
        CHECK.same("400 blanks", Texts.fault(x, " ".repeat(400)), 400);
        CHECK.same("400 letters", Texts.fault(x, "k".repeat(400)), 0);
        CHECK.same("399 digits", Texts.fault(x, "k" + "0".repeat(399)), 1);
    }

    private static void faultsOfVariables() {
        CHECK.topic("16 fault, variables behind not");
        LineStore x = new LineStore();
        CHECK.same("first of all", Texts.fault(x, "not k0(r0a),k0(r0a)"), 9);
        CHECK.same("behind its atom", Texts.fault(x, "k0(r0a),not k0(r0a)"), -1);
        CHECK.same("another one", Texts.fault(x, "k0(r0a),not k0(r0a,r0b)"), 21);
        CHECK.same("an atom with not ahead of it does not count",
                Texts.fault(x, "k0(r0a),not k0(r0t1),not k0(r0 c),k0(r0c)"), 31);
        CHECK.same("things are free", Texts.fault(x, "not k0(r0t1),k0(r0b),not k1(r0b)"), -1);
        CHECK.same("the latest text alone counts", Texts.fault(x, "not k1(r0b)"), 9);
    }

    private static void answers() {
        CHECK.topic("17 answers");
        LineStore x = new LineStore();
        CHECK.same("ahead of any question", x.answers(0), 0);
        Steps.put(x, 0, 5, 9, "0:1 0:2 1:3");
        Steps.put(x, 0, 5, 9, "0:1 0:4 1:5");
        Steps.put(x, 1, 5, 9, "0:3");
        Steps.put(x, 0, 5, 9, "0:L0");
        Texts.ask(x, "k0(r0a)");
        int[] days = {Integer.MIN_VALUE, -1, 4, 5, 9, 10, 1001, Integer.MAX_VALUE};
        int[] due = {0, 0, 0, 3, 3, 0, 0, 0};
        for (int i = 0; i < days.length; i++) {
            CHECK.same("answers(" + days[i] + ")", x.answers(days[i]), due[i]);
        }
        Texts.ask(x, "k0(r0a,r1b)");
        CHECK.same("of one line", x.answers(5), 4);
        Texts.ask(x, "k0(r0a),k0(r1b)");
        CHECK.same("of any two lines", x.answers(5), 6);
        Texts.ask(x, "k0(r0a,r1b),k1(r0b)");
        CHECK.same("joined", x.answers(5), 2);
        Texts.ask(x, "k0(r0a,r0b,r1c)");
        CHECK.same("one end for two parts", x.answers(5), 8);
        Texts.ask(x, "k0(r0a,r1a)");
        CHECK.same("one variable for two parts", x.answers(5), 0);
        Texts.ask(x, "k0(r0t1)");
        CHECK.same("without variables, true", x.answers(5), 1);
        CHECK.same("on another day", x.answers(4), 0);
        Texts.ask(x, "k0(r0t2,r1t5)");
        CHECK.same("without variables, of two lines", x.answers(5), 0);
        LineStore y = new LineStore();
        for (int thing = 0; thing < 40; thing++) {
            Steps.put(y, 0, 0, 0, "0:" + thing);
        }
        Texts.ask(y, "k0(r0a),k0(r0b),k0(r0c)");
        CHECK.same("all that there may be", y.answers(0), 64000);
        CHECK.same("the last of them", y.answer(0, 63999, 0), 39);
        CHECK.same("its a", y.answer(0, 1600 * 7 + 40 * 8 + 9, 0), 7);
        CHECK.same("its b", y.answer(0, 1600 * 7 + 40 * 8 + 9, 1), 8);
        CHECK.same("its c", y.answer(0, 1600 * 7 + 40 * 8 + 9, 2), 9);
        CHECK.same("one more", y.answer(0, 64000, 0), -1);
    }

    private static void answersOfNot() {
        CHECK.topic("17 answers with not");
        LineStore x = new LineStore();
        Steps.put(x, 0, 0, 9, "0:1 1:2");
        Steps.put(x, 0, 0, 9, "0:3 1:4");
        Steps.put(x, 1, 0, 4, "0:1 1:4");
        Texts.ask(x, "k0(r0a),k0(r1b),not k0(r0a,r1b)");
        CHECK.same("not of one line", x.answers(0), 2);
        Texts.ask(x, "k0(r0a),k0(r1b),not k0(r0a,r1b),not k1(r0a,r1b)");
        CHECK.same("nor another", x.answers(0), 1);
        CHECK.same("its a", x.answer(0, 0, 0), 3);
        CHECK.same("its b", x.answer(0, 0, 1), 2);
        CHECK.same("when the other is over", x.answers(5), 2);
        Texts.ask(x, "not k0(r0t1)");
        CHECK.same("not, and false", x.answers(0), 0);
        CHECK.same("not, and true", x.answers(10), 1);
        CHECK.same("on no day is a line in force behind the last", x.answers(1001), 1);
        Texts.ask(x, "k0(r0a),not k0(r1t2)");
        CHECK.same("not without a variable", x.answers(0), 0);
    }

    private static void answersOfOnes() {
        CHECK.topic("17 answers by what is one");
        LineStore x = new LineStore();
        Steps.put(x, 0, 0, 9, "0:7 1:8");
        Steps.put(x, 0, 0, 9, "0:9 1:5");
        Texts.ask(x, "k0(r0a,r1b)");
        x.one(8, 9);
        x.one(7, 9);
        CHECK.same("two lines with one a", x.answers(0), 2);
        CHECK.same("first b", x.answer(0, 0, 1), 5);
        CHECK.same("second a", x.answer(0, 1, 0), 7);
        CHECK.same("second b", x.answer(0, 1, 1), 7);
        Texts.ask(x, "k0(r0a,r1a)");
        CHECK.same("one variable, two things that are one", x.answers(0), 1);
        Texts.ask(x, "k0(r0t8,r1t5)");
        CHECK.same("a thing that is one with it", x.answers(0), 1);
        Texts.ask(x, "k0(r0a),k0(r1b),not k0(r0a,r1b)");
        CHECK.same("not by what is one", x.answers(0), 0);
        x.part();
        x.part();
        CHECK.same("not by what was one", x.answers(0), 2);
        x.one(5, 8);
        x.one(7, 9);
        Texts.ask(x, "k0(r0a,r1b)");
        CHECK.same("two lines, one answer", x.answers(0), 1);
    }

    private static void answer() {
        CHECK.topic("18 answer");
        LineStore x = new LineStore();
        CHECK.same("ahead of any question", x.answer(0, 0, 0), -1);
        Steps.put(x, 0, 0, 9, "0:20 1:3");
        Steps.put(x, 0, 0, 9, "0:2 1:30 1:4");
        Steps.put(x, 0, 0, 9, "0:2 1:3");
        Texts.ask(x, "k0(r1c,r0a)");
        int[][] due = {{2, 3}, {2, 4}, {2, 30}, {20, 3}};
        CHECK.same("answers(0)", x.answers(0), due.length);
        for (int n = 0; n < due.length; n++) {
            CHECK.same("answer(0, " + n + ", 0)", x.answer(0, n, 0), due[n][0]);
            CHECK.same("answer(0, " + n + ", 2)", x.answer(0, n, 2), due[n][1]);
            CHECK.same("answer(0, " + n + ", 1)", x.answer(0, n, 1), -1);
        }
        int[] none = {-1, 4, Integer.MIN_VALUE, Integer.MAX_VALUE};
        for (int n : none) {
            CHECK.same("answer(0, " + n + ", 0)", x.answer(0, n, 0), -1);
        }
        for (int variable : new int[] {-1, 3, 31, 32, 34, Integer.MIN_VALUE, Integer.MAX_VALUE}) {
            CHECK.same("answer(0, 0, " + variable + ")", x.answer(0, 0, variable), -1);
        }
        CHECK.same("on another day", x.answer(10, 0, 0), -1);
        Texts.ask(x, "k0(r1b,r0c)");
        CHECK.same("by b first: b", x.answer(0, 1, 1), 3);
        CHECK.same("by b first: c", x.answer(0, 1, 2), 20);
        Texts.ask(x, "k0(r0t2)");
        CHECK.same("true, without variables", x.answers(0), 1);
        CHECK.same("it has none", x.answer(0, 0, 0), -1);
    }

    private static void ways() {
        CHECK.topic("19 ways");
        LineStore x = new LineStore();
        for (int wrong : NOT_FORTY) {
            CHECK.fails("ways(" + wrong + ", 0, 63, 0)", BOUNDS, () -> x.ways(wrong, 0, 63, 0));
            CHECK.fails("ways(0, " + wrong + ", 63, 0)", BOUNDS, () -> x.ways(0, wrong, 63, 0));
        }
        CHECK.same("to itself", x.ways(3, 3, 0, -5), 0);
        CHECK.same("without lines", x.ways(3, 4, 63, 0), -1);
        Steps.put(x, 0, 0, 9, "0:1 1:2");
        Steps.put(x, 1, 0, 9, "5:2 0:3 1:11");
        Steps.put(x, 2, 5, 9, "0:1 0:4 0:3");
        Steps.put(x, 5, 0, 9, "0:L0 0:6");
        Steps.put(x, 5, 0, 9, "0:L0 0:7");
        CHECK.same("to a thing of no line", x.ways(1, 0, 63, 5), -1);
        CHECK.same("from a thing of no line", x.ways(0, 1, 63, 5), -1);
        CHECK.same("of one line", x.ways(1, 2, 1, 0), 1);
        CHECK.same("of two lines", x.ways(1, 3, 3, 0), 2);
        CHECK.same("back", x.ways(3, 1, 3, 0), 2);
        CHECK.same("without the second one's kind", x.ways(1, 3, 1, 0), -1);
        CHECK.same("without any kind", x.ways(1, 2, 0, 0), -1);
        CHECK.same("more bits than kinds", x.ways(1, 2, -64, 0), -1);
        CHECK.same("all bits", x.ways(1, 3, -1, 0), 2);
        CHECK.same("a shorter one on day 5", x.ways(1, 3, 63, 5), 1);
        CHECK.same("none behind day 9", x.ways(1, 3, 63, 10), -1);
        CHECK.same("a line in common is no thing", x.ways(6, 7, 63, 0), -1);
        CHECK.same("nor is a line's thing its own", x.ways(1, 6, 63, 0), -1);
        x.one(30, 11);
        x.one(30, 6);
        CHECK.same("by what is one", x.ways(1, 11, 3, 0), 2);
        CHECK.same("with what is one at the end", x.ways(1, 30, 3, 0), 2);
        CHECK.same("0 for what is one", x.ways(30, 6, 0, 0), 0);
        LineStore y = new LineStore();
        for (int thing = 39; thing > 0; thing--) {
            Steps.put(y, thing % 6, 0, 0, "0:" + thing + " 1:" + (thing - 1));
        }
        CHECK.same("39 lines", y.ways(0, 39, 63, 0), 39);
        y.strike(20, 0);
        CHECK.same("one of them struck", y.ways(0, 39, 63, 0), -1);
    }

    private static void degree() {
        CHECK.topic("20 degree");
        LineStore x = new LineStore();
        for (int wrong : NOT_FORTY) {
            CHECK.fails("degree of thing " + wrong, BOUNDS, () -> x.degree(wrong, 0, 0, 0));
        }
        for (int wrong : NOT_SIX) {
            CHECK.fails("degree of kind " + wrong, BOUNDS, () -> x.degree(0, wrong, 0, 0));
            CHECK.fails("degree of role " + wrong, BOUNDS, () -> x.degree(0, 0, wrong, 0));
        }
        Steps.put(x, 0, 0, 9, "0:1 0:1 1:1");
        Steps.put(x, 0, 5, 9, "0:1 0:L0");
        Steps.put(x, 1, 0, 9, "0:1");
        Steps.put(x, 0, 0, 9, "0:2");
        CHECK.same("once a line", x.degree(1, 0, 0, 0), 1);
        CHECK.same("two lines", x.degree(1, 0, 0, 5), 2);
        CHECK.same("another role", x.degree(1, 0, 1, 5), 1);
        CHECK.same("another kind", x.degree(1, 1, 0, 5), 1);
        CHECK.same("last day", x.degree(1, 0, 0, 9), 2);
        CHECK.same("behind it", x.degree(1, 0, 0, 10), 0);
        CHECK.same("a day that is none", x.degree(1, 0, 0, -1), 0);
        CHECK.same("line 0 is no thing 0", x.degree(0, 0, 0, 5), 0);
        x.one(2, 1);
        CHECK.same("with what is one", x.degree(1, 0, 0, 5), 3);
        CHECK.same("the same for the other", x.degree(2, 0, 0, 5), 3);
        x.strike(1, 7);
        CHECK.same("struck", x.degree(2, 0, 0, 7), 2);
    }

    private static void count() {
        CHECK.topic("21 count");
        LineStore x = new LineStore();
        CHECK.same("count(6)", x.count(6), -1);
        CHECK.same("count(-1)", x.count(-1), -1);
        CHECK.same("count(most)", x.count(Integer.MAX_VALUE), -1);
        Steps.put(x, 0, 0, 9, "0:1 0:2");
        Steps.put(x, 0, 0, 9, "0:1");
        x.strike(0, 0);
        x.draft(0, false, 1);
        x.draft(0, true, 1);
        x.draft(0, true, 0);
        x.one(1, 2);
        x.one(3, 4);
        x.one(1, 4);
        x.one(2, 3);
        Texts.ask(x, "k0(r0c,r1c),k0(r0a),k0(r0t1),not k1(r1a)");
        int[] due = {2, 3, 3, 37, 4, 2};
        for (int what = 0; what < due.length; what++) {
            CHECK.same("count(" + what + ")", x.count(what), due[what]);
        }
        x.part();
        CHECK.same("count(2) after part", x.count(2), 2);
        CHECK.same("count(3) after part", x.count(3), 38);
    }

    /** As many lines, ends, atoms and parts as there may be at once: no row of the program is too short. */
    private static void allThatFits() {
        CHECK.topic("all that fits");
        LineStore x = new LineStore();
        for (int line = 0; line < 119; line++) {
            Steps.put(x, 5, 0, 1000, (line < 40 ? "5:39 5:38 4:" : "5:39 4:") + (line % 40));
        }
        x.alone(5, 5, 100);
        CHECK.same("119 lines at once are more than 100", Steps.put(x, 5, 0, 1000, "5:39"), -3);
        x.alone(5, 5, 0);
        CHECK.same("the last line", Steps.put(x, 5, 0, 1000, "5:39 5:38 5:37 4:1 4:2 4:39"), 119);
        String atom = "k5(r5a,r5b,r4c,r5t39)";
        CHECK.same("six atoms", Texts.ask(x, (atom + ",").repeat(5) + atom), 6);
        CHECK.same("38 and 39 twice with all, 37 with three", x.answers(1000), 4 * 40 + 5 * 3);
        CHECK.same("the last a", x.answer(0, 174, 0), 39);
        CHECK.same("the last b", x.answer(0, 174, 1), 39);
        CHECK.same("the last c", x.answer(0, 174, 2), 39);
        CHECK.same("no more", x.answer(0, 175, 2), -1);
        CHECK.same("five with not", Texts.ask(x, atom + (",not k5(r4c,r5a,r5b,r5t37)").repeat(5)), 6);
        CHECK.same("without the last line's", x.answers(1000), 4 * 37);
        CHECK.same("degree", x.degree(39, 5, 5, 500), 120);
        CHECK.same("ways", x.ways(37, 0, 32, 500), 2);
        CHECK.same("strike of the last", x.strike(119, 500), 1);
        CHECK.same("degree then", x.degree(39, 5, 5, 500), 119);
    }
}
