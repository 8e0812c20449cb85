import java.util.NoSuchElementException;

/** The edges that the document names of exceptions and of the calls one by one: a test for each sentence. */
public final class CallEdgeTest {
    private static final Checker CHECK = new Checker();
    private static final Class<IndexOutOfBoundsException> BOUNDS = IndexOutOfBoundsException.class;
    private static final Class<IllegalArgumentException> ARGUMENT = IllegalArgumentException.class;
    private static final Class<NoSuchElementException> ELEMENT = NoSuchElementException.class;
    private static final Class<UnsupportedOperationException> FULL = UnsupportedOperationException.class;
    private static final int LEAST = Integer.MIN_VALUE;
    private static final int MOST = Integer.MAX_VALUE;

    /** A call on a store that is told later. */
    private interface Step {
        Object on(LineStore x);
    }

    private CallEdgeTest() {
    }

    public static void main(String[] args) {
        CHECK.runAll(CallEdgeTest::toldFirst, CallEdgeTest::toldFirstOfPut, CallEdgeTest::throwingChangesNothing,
                CallEdgeTest::throwingPutChangesNothing, CallEdgeTest::throwingQuestionChangesTheTapeAlone,
                CallEdgeTest::noLines, CallEdgeTest::noLaws, CallEdgeTest::noOnes, CallEdgeTest::nothingElseAtFirst,
                CallEdgeTest::objectsShareNothing, CallEdgeTest::leastToMost, CallEdgeTest::noneToHundred,
                CallEdgeTest::wasOtherwise, CallEdgeTest::howManyTheDraftHas, CallEdgeTest::fullDraft,
                CallEdgeTest::draftOfWhat, CallEdgeTest::becomesALine, CallEdgeTest::lessWhyRefused,
                CallEdgeTest::daysAreNone, CallEdgeTest::draftWithoutEnds, CallEdgeTest::thereAre120,
                CallEdgeTest::howManyAreStruck, CallEdgeTest::heldOrNotOfItsSpan, CallEdgeTest::withAllThatAreOne,
                CallEdgeTest::wereNotOne, CallEdgeTest::partedAgain, CallEdgeTest::asWhichItCounts,
                CallEdgeTest::lookAtALine, CallEdgeTest::lastDayOfNever, CallEdgeTest::howManyHang,
                CallEdgeTest::anotherWhatOfLook, CallEdgeTest::asDrafted, CallEdgeTest::asItWasTold,
                CallEdgeTest::noneSuchOfEnded, CallEdgeTest::counts, CallEdgeTest::countOfOnes,
                CallEdgeTest::countOfAnotherWhat);
        CHECK.finish();
    }

    private static void toldFirst() {
        CHECK.topic("promises 4, 5, 13, 14: Of several exceptions the one told first is thrown");
        LineStore x = new LineStore();
        CHECK.fails("ends: kind and most", BOUNDS, () -> Steps.ends(x, 6, 0, 0, 7));
        CHECK.fails("ends: role and least", BOUNDS, () -> Steps.ends(x, 0, -1, -1, 6));
        CHECK.fails("alone: kind and most", BOUNDS, () -> Steps.alone(x, -1, 0, 101));
        CHECK.fails("alone: role and most", BOUNDS, () -> Steps.alone(x, 0, 6, -1));
        CHECK.fails("look: line and what, without lines", BOUNDS, () -> x.look(0, 5));
        CHECK.fails("ended: all, without lines", BOUNDS, () -> x.ended(0, 0, 3));
        Steps.put(x, 0, 0, 9, "0:1");
        CHECK.fails("look: line and what", BOUNDS, () -> x.look(1, 5));
        CHECK.fails("ended: line and i", BOUNDS, () -> x.ended(-1, 1, 0));
        CHECK.fails("ended: line and what", BOUNDS, () -> x.ended(1, 0, -1));
        CHECK.fails("ended: i and what", ELEMENT, () -> x.ended(0, 1, 3));
    }

    private static void toldFirstOfPut() {
        CHECK.topic("promise 8: Of several exceptions the one told first is thrown");
        LineStore x = new LineStore();
        CHECK.fails("kind, days and no ends", BOUNDS, () -> x.put(6, 5, 4));
        CHECK.fails("days and no ends", ARGUMENT, () -> x.put(5, 5, 4));
        for (int line = 0; line < 120; line++) {
            Steps.put(x, 0, 0, 9, "0:1");
        }
        CHECK.fails("kind, no ends and 120", BOUNDS, () -> x.put(-1, 0, 9));
        CHECK.fails("no ends and 120", ARGUMENT, () -> x.put(0, 0, 9));
        x.draft(0, false, 1);
        CHECK.fails("kind and 120", BOUNDS, () -> x.put(6, 0, 9));
        CHECK.fails("days and 120", ARGUMENT, () -> x.put(0, 0, 1001));
        x.ends(0, 0, 0, 0);
        CHECK.fails("120 and refused", FULL, () -> x.put(0, 0, 9));
        x.ends(0, 0, 0, 6);
        CHECK.fails("120 alone", FULL, () -> x.put(0, 0, 9));
    }

    /** With LAWS, LINES, ONES, a draft, a QUESTION and a TAPE. */
    private static LineStore full() {
        LineStore x = new LineStore();
        x.ends(0, 0, 1, 2);
        x.alone(0, 0, 1);
        x.holds(1, false);
        Steps.put(x, 0, 0, 9, "0:1 1:2");
        Steps.put(x, 1, 0, 9, "0:L0 1:3");
        Steps.put(x, 2, 5, 9, "0:L1");
        x.one(2, 3);
        x.one(10, 11);
        Texts.fault(x, "k1(r1a),k0(r1a)");
        Texts.fault(x, "k0!");
        Steps.draft(x, "0:1 2:L1");
        Texts.feed(x, "k1(r1b)");
        return x;
    }

    /** What a store answers to calls that ask for all that it holds, and change it on the way. */
    private static String allOf(LineStore x) {
        StringBuilder text = new StringBuilder();
        for (int what = 0; what < 6; what++) {
            text.append(' ').append(x.count(what));
        }
        text.append(" fault ").append(x.fault()).append(" answers ").append(Steps.answers(x, 5));
        text.append(" tape ").append(x.end(8)).append(Checker.outcome(() -> x.question()));
        text.append(" answers ").append(Steps.answers(x, 5)).append(" lines ");
        for (int line = 0; line < 3; line++) {
            for (int what = 0; what < 5; what++) {
                text.append(x.look(line, what)).append(' ');
            }
            for (int end = 0; end < x.look(line, 3); end++) {
                text.append(x.ended(line, end, 0)).append(x.ended(line, end, 1)).append(x.ended(line, end, 2));
            }
        }
        text.append(" draft ").append(x.put(1, 5, 9)).append(' ').append(x.look(3, 3)).append(x.ended(3, 1, 2));
        text.append(" laws ").append(Steps.put(x, 0, 20, 20, "1:1"));
        text.append(Steps.put(x, 0, 20, 20, "0:1 0:1 0:1")).append(Steps.put(x, 0, 20, 20, "0:1 0:1"));
        text.append(Steps.put(x, 0, 20, 20, "0:1")).append(" strikes ").append(x.strike(0, 9));
        text.append(x.strike(1, 9)).append(x.holds(0, true)).append(x.holds(1, true)).append(" ones ");
        for (int parts = 0; parts < 4; parts++) {
            text.append(x.as(3)).append(x.as(11)).append(x.part());
        }
        return text.toString();
    }

    private static void throwingChangesNothing() {
        CHECK.topic("all promises: a call that throws changes nothing");
        String due = allOf(full());
        Step[] steps = {
            x -> Steps.ends(x, 6, 0, 0, 0), x -> Steps.ends(x, 0, 6, 0, 0), x -> Steps.ends(x, -1, 0, 0, 0),
            x -> Steps.ends(x, 0, 0, 0, 7), x -> Steps.ends(x, 0, 0, -1, 6), x -> Steps.ends(x, 0, 0, 2, 1),
            x -> Steps.alone(x, 6, 0, 0), x -> Steps.alone(x, 0, 6, 0), x -> Steps.alone(x, 0, 0, 101),
            x -> Steps.alone(x, 0, 0, -1), x -> x.holds(6, true), x -> x.holds(-1, false),
            x -> x.draft(6, false, 1), x -> x.draft(0, false, 40), x -> x.draft(0, true, 3), x -> x.draft(0, true, -1),
            x -> x.put(6, 5, 9), x -> x.put(0, 9, 5), x -> x.put(0, -1, 9), x -> x.put(0, 5, 1001),
            x -> x.strike(3, 5), x -> x.strike(-1, 5), x -> x.one(1, 40), x -> x.one(-1, 1), x -> x.as(40),
            x -> x.look(3, 0), x -> x.look(0, 5), x -> x.ended(3, 0, 0), x -> x.ended(0, 2, 0), x -> x.ended(0, 0, 3),
            x -> x.ways(40, 0, 1, 5), x -> x.ways(0, 40, 1, 5),
            x -> x.degree(40, 0, 0, 5), x -> x.degree(1, 6, 0, 5), x -> x.degree(1, 0, 6, 5)};
        for (int i = 0; i < steps.length; i++) {
            LineStore x = full();
            Step step = steps[i];
            CHECK.same("step " + i + " throws", Checker.outcome(() -> step.on(x)).toString().startsWith("throws "), true);
            CHECK.same("behind step " + i, allOf(x), due);
        }
    }

    private static void throwingPutChangesNothing() {
        CHECK.topic("promise 8: a call that throws changes nothing: the draft stands");
        LineStore x = new LineStore();
        for (int line = 0; line < 120; line++) {
            Steps.put(x, 0, 0, 9, "0:1");
        }
        Steps.draft(x, "0:1 5:39");
        CHECK.fails("line 120", FULL, () -> x.put(0, 0, 9));
        CHECK.same("its ends", x.count(1), 2);
        CHECK.same("the lines", x.count(0), 120);
        CHECK.fails("days that are none", ARGUMENT, () -> x.put(0, 9, 0));
        CHECK.same("its ends then", x.count(1), 2);
        CHECK.same("a third end", x.draft(0, false, 1), 3);
    }

    private static void throwingQuestionChangesTheTapeAlone() {
        CHECK.topic("promise 15: a call that throws changes nothing but the TAPE, where it is used up");
        LineStore x = full();
        LineStore y = full();
        Texts.fault(x, "k1(r1c),k5(r5b),not k0(r0a)");
        CHECK.same("the fault is the latest's", x.fault(), 25);
        Texts.fault(y, " ".repeat(25) + "!");
        CHECK.same("the same fault of another text", y.fault(), 25);
        CHECK.same("no byte is left", x.end(1), false);
        CHECK.same("all else is alike", allOf(x), allOf(y));
    }

    private static void noLines() {
        CHECK.topic("promise 1: No LINES");
        LineStore x = new LineStore();
        CHECK.same("how many", x.count(0), 0);
        CHECK.fails("look", BOUNDS, () -> x.look(0, 0));
        CHECK.fails("ended", BOUNDS, () -> x.ended(0, 0, 0));
        CHECK.fails("strike", BOUNDS, () -> x.strike(0, 0));
        CHECK.fails("draft", BOUNDS, () -> x.draft(0, true, 0));
        CHECK.same("degree", x.degree(0, 0, 0, 0), 0);
        CHECK.same("ways", x.ways(0, 1, 63, 0), -1);
    }

    private static void noLaws() {
        CHECK.topic("promise 1: no LAWS but those as at first");
        LineStore x = new LineStore();
        for (int kind = 0; kind < 6; kind++) {
            CHECK.same("kind " + kind + " holds", x.holds(kind, true), false);
            for (int role = 0; role < 6; role++) {
                String end = role + ":0";
                int lines = 3 * (6 * kind + role);
                CHECK.same("six ends", Steps.put(x, kind, 0, 9, end + (" " + end).repeat(5)), lines);
                CHECK.same("a second line of the thing", Steps.put(x, kind, 0, 9, end), lines + 1);
                CHECK.same("a third one", Steps.put(x, kind, 0, 9, end), lines + 2);
            }
        }
    }

    private static void noOnes() {
        CHECK.topic("promise 1: no THINGS are ONE");
        LineStore x = new LineStore();
        for (int thing = 0; thing < 40; thing++) {
            CHECK.same("as of " + thing, x.as(thing), thing);
        }
        CHECK.same("how often", x.count(2), 0);
        CHECK.same("as themselves", x.count(3), 40);
        CHECK.same("nothing to part", x.part(), false);
    }

    private static void nothingElseAtFirst() {
        CHECK.topic("promises 1, 2, 7, 15: a new object has no draft, no TAPE and no QUESTION");
        LineStore x = new LineStore();
        CHECK.same("ends of the draft", x.count(1), 0);
        CHECK.same("atoms", x.count(4), 0);
        CHECK.same("variables", x.count(5), 0);
        CHECK.same("a byte of the tape", x.end(1), false);
        CHECK.same("its first bytes", x.feed(0, 0, 0, 0, 0), 20);
        CHECK.same("its first end", x.draft(0, false, 0), 1);
    }

    private static void objectsShareNothing() {
        CHECK.topic("promise 1: a new object beside another one");
        String due = allOf(full());
        LineStore x = full();
        LineStore y = new LineStore();
        CHECK.same("its lines", y.count(0), 0);
        CHECK.same("its laws", Steps.put(y, 0, 0, 9, "0:1 0:1 0:1"), 0);
        CHECK.same("its things", y.as(3), 3);
        CHECK.same("its tape", y.end(1), false);
        CHECK.same("its fault", y.fault(), -1);
        y.holds(1, true);
        y.ends(0, 0, 0, 0);
        y.one(0, 39);
        y.one(1, 2);
        Texts.ask(y, "k0(r0c)");
        CHECK.same("the other one is as it was", allOf(x), due);
    }

    private static void leastToMost() {
        CHECK.topic("promise 4: IllegalArgumentException: not 0 to least to most to 6");
        LineStore x = new LineStore();
        int[][] right = {{0, 0}, {0, 6}, {6, 6}, {3, 3}, {2, 5}};
        for (int[] law : right) {
            CHECK.same(law[0] + " to " + law[1], Checker.outcome(() -> Steps.ends(x, 0, 0, law[0], law[1])), "made");
        }
        int[][] wrong = {{-1, 0}, {-1, 6}, {0, 7}, {7, 7}, {1, 0}, {6, 5}, {0, -1}, {-2, -1}, {LEAST, 6}, {0, MOST},
            {LEAST, MOST}, {MOST, LEAST}, {MOST, MOST}, {LEAST, LEAST}};
        for (int[] law : wrong) {
            CHECK.fails(law[0] + " to " + law[1], ARGUMENT, () -> Steps.ends(x, 0, 0, law[0], law[1]));
        }
    }

    private static void noneToHundred() {
        CHECK.topic("promise 5: IllegalArgumentException: not 0 to 100");
        LineStore x = new LineStore();
        for (int most : new int[] {0, 1, 99, 100}) {
            CHECK.same("most " + most, Checker.outcome(() -> Steps.alone(x, 0, 0, most)), "made");
        }
        for (int most : new int[] {-1, 101, LEAST, MOST}) {
            CHECK.fails("most " + most, ARGUMENT, () -> Steps.alone(x, 0, 0, most));
        }
        for (int line = 0; line < 100; line++) {
            CHECK.same("by 100: line " + line, Steps.put(x, 0, 0, 9, "0:1"), line);
        }
        CHECK.same("by 100: one more", Steps.put(x, 0, 0, 9, "0:1"), -3);
    }

    private static void wasOtherwise() {
        CHECK.topic("promise 6: whether it was otherwise");
        LineStore x = new LineStore();
        CHECK.same("true at first", x.holds(0, true), false);
        CHECK.same("false", x.holds(0, false), true);
        CHECK.same("false again", x.holds(0, false), false);
        CHECK.same("true", x.holds(0, true), true);
        CHECK.same("true again", x.holds(0, true), false);
        CHECK.same("false of another kind", x.holds(5, false), true);
        CHECK.same("the first kind is as it was", x.holds(0, true), false);
    }

    private static void howManyTheDraftHas() {
        CHECK.topic("promise 7: An END comes to the draft of a LINE: how many it has");
        LineStore x = new LineStore();
        for (int ends = 1; ends <= 6; ends++) {
            CHECK.same("end " + ends, x.draft(0, false, 1), ends);
            CHECK.same("count of " + ends, x.count(1), ends);
        }
    }

    private static void fullDraft() {
        CHECK.topic("promise 7: NONE, and it does not come, if it has 6");
        LineStore x = new LineStore();
        Steps.draft(x, "0:1 1:2 2:3 3:4 4:5 5:6");
        CHECK.same("a seventh", x.draft(0, false, 7), -1);
        CHECK.same("there are six", x.count(1), 6);
        CHECK.fails("a seventh of no role", BOUNDS, () -> x.draft(6, false, 7));
        CHECK.fails("a seventh of no thing", BOUNDS, () -> x.draft(0, false, 40));
        CHECK.fails("a seventh of no line", BOUNDS, () -> x.draft(0, true, 0));
        CHECK.same("put", x.put(0, 0, 9), 0);
        for (int end = 0; end < 6; end++) {
            CHECK.same("end " + end, x.ended(0, end, 1), end + 1);
        }
        CHECK.same("the draft has room again", x.draft(0, false, 7), 1);
    }

    private static void draftOfWhat() {
        CHECK.topic("promise 7: IndexOutOfBoundsException: of a ROLE, THING or (line true) LINE");
        LineStore x = new LineStore();
        for (int line = 0; line < 42; line++) {
            Steps.put(x, 0, 0, 9, "0:1");
        }
        CHECK.same("thing 39", x.draft(0, false, 39), 1);
        CHECK.fails("thing 40, though there is a line", BOUNDS, () -> x.draft(0, false, 40));
        CHECK.same("line 40, though there is no thing", x.draft(0, true, 40), 2);
        CHECK.same("line 41", x.draft(0, true, 41), 3);
        for (int line : new int[] {42, -1, LEAST, MOST}) {
            CHECK.fails("line " + line, BOUNDS, () -> x.draft(0, true, line));
        }
        LineStore y = new LineStore();
        CHECK.fails("line 39, though there is a thing", BOUNDS, () -> y.draft(0, true, 39));
    }

    private static void becomesALine() {
        CHECK.topic("promise 8: The draft becomes a LINE, and has no ENDS then: its number");
        LineStore x = new LineStore();
        Steps.draft(x, "0:1 5:39");
        CHECK.same("the first", x.put(3, 5, 9), 0);
        CHECK.same("the draft", x.count(1), 0);
        CHECK.same("its kind", x.look(0, 0), 3);
        CHECK.same("its ends", x.look(0, 3), 2);
        Steps.draft(x, "1:2");
        CHECK.same("the second", x.put(4, 5, 9), 1);
        CHECK.same("its ends are its own", x.look(1, 3), 1);
        CHECK.same("the first one's are as they were", x.ended(0, 0, 1), 1);
    }

    private static void lessWhyRefused() {
        CHECK.topic("promise 8: less why it is refused (and the draft has none, either)");
        LineStore x = new LineStore();
        Steps.put(x, 0, 5, 9, "0:1");
        x.alone(0, 0, 1);
        x.ends(0, 1, 0, 0);
        String[] ends = {"1:1", "0:L0", "0:1"};
        for (int why = 1; why <= 3; why++) {
            CHECK.same("refused for " + why, Steps.put(x, 0, 4, 9, ends[why - 1]), -why);
            CHECK.same("the draft has none", x.count(1), 0);
            CHECK.same("there is no line of it", x.count(0), 1);
            CHECK.fails("put again", ARGUMENT, () -> x.put(0, 4, 9));
        }
        CHECK.same("nothing hangs on line 0", x.look(0, 4), 0);
    }

    private static void daysAreNone() {
        CHECK.topic("promise 8: IllegalArgumentException: the days are none");
        LineStore x = new LineStore();
        x.draft(0, false, 1);
        int[][] wrong = {{1, 0}, {1000, 999}, {-1, 0}, {-1, -1}, {-1, 1000}, {0, 1001}, {1000, 1001}, {1001, 1001},
            {0, -1}, {LEAST, MOST}, {MOST, LEAST}, {LEAST, 0}, {0, MOST}, {MOST, MOST}};
        for (int[] days : wrong) {
            CHECK.fails(days[0] + " to " + days[1], ARGUMENT, () -> x.put(0, days[0], days[1]));
        }
        int[][] right = {{0, 0}, {1000, 1000}, {0, 1000}, {999, 1000}};
        for (int line = 0; line < right.length; line++) {
            CHECK.same(right[line][0] + " to " + right[line][1], x.put(0, right[line][0], right[line][1]), line);
            CHECK.same("first day", x.look(line, 1), right[line][0]);
            CHECK.same("last day", x.look(line, 2), right[line][1]);
            x.draft(0, false, 1);
        }
    }

    private static void draftWithoutEnds() {
        CHECK.topic("promise 8: IllegalArgumentException: or the draft has no ENDS");
        LineStore x = new LineStore();
        CHECK.fails("at first", ARGUMENT, () -> x.put(0, 0, 9));
        Steps.put(x, 0, 0, 9, "0:1");
        CHECK.fails("behind a line", ARGUMENT, () -> x.put(0, 0, 9));
        x.ends(0, 0, 1, 6);
        CHECK.fails("where it would be refused", ARGUMENT, () -> x.put(0, 0, 9));
        CHECK.same("there is one line", x.count(0), 1);
    }

    private static void thereAre120() {
        CHECK.topic("promise 8: UnsupportedOperationException: there are 120");
        LineStore x = new LineStore();
        for (int line = 0; line < 120; line++) {
            CHECK.same("line " + line, Steps.put(x, line % 6, 0, 9, "0:1"), line);
        }
        x.draft(0, false, 1);
        CHECK.fails("one more", FULL, () -> x.put(0, 0, 9));
        CHECK.same("there are 120", x.count(0), 120);
        CHECK.same("the last of them", x.look(119, 0), 5);
        CHECK.fails("none is numbered 120", BOUNDS, () -> x.look(120, 0));
    }

    private static void howManyAreStruck() {
        CHECK.topic("promise 9: how many LINES are struck");
        LineStore x = new LineStore();
        x.holds(0, false);
        Steps.put(x, 0, 0, 9, "0:1");
        CHECK.same("itself", x.strike(0, 9), 1);
        Steps.put(x, 0, 0, 8, "0:L0 0:L0");
        Steps.put(x, 0, 0, 8, "0:L0 0:L1");
        Steps.put(x, 0, 0, 3, "0:L0");
        CHECK.same("each once, by whatever ends", x.strike(0, 5), 3);
        CHECK.same("what hangs on 1", x.strike(1, 4), 2);
        CHECK.same("what hangs on none", x.strike(2, 3), 1);
        for (int line = 4; line < 120; line++) {
            Steps.put(x, 0, 0, 3, "0:L0");
        }
        CHECK.same("all 120", x.strike(0, 1), 120);
        CHECK.same("all 120 on day 0", x.strike(0, 0), 120);
        CHECK.same("none", x.strike(0, 0), 0);
    }

    private static void heldOrNotOfItsSpan() {
        CHECK.topic("promise 9: 0 if it is held, or the day is not of its span");
        LineStore x = new LineStore();
        Steps.put(x, 0, 5, 9, "0:1");
        for (int day : new int[] {4, 10, -1, 1001, LEAST, MOST}) {
            CHECK.same("on day " + day, x.strike(0, day), 0);
            CHECK.same("its last day", x.look(0, 2), 9);
        }
        Steps.put(x, 0, 7, 7, "0:L0");
        CHECK.same("held", x.strike(0, 7), 0);
        CHECK.same("held, and not of its span", x.strike(0, 4), 0);
        CHECK.same("its last day still", x.look(0, 2), 9);
        CHECK.fails("no line", BOUNDS, () -> x.strike(2, 7));
        CHECK.fails("no line, nor a day", BOUNDS, () -> x.strike(-1, -1));
    }

    private static void withAllThatAreOne() {
        CHECK.topic("promise 10: Two THINGS are made ONE (with all that are ONE with them)");
        LineStore x = new LineStore();
        x.one(4, 5);
        x.one(6, 7);
        x.one(8, 9);
        x.one(5, 7);
        x.one(9, 5);
        for (int thing = 4; thing <= 9; thing++) {
            CHECK.same("as of " + thing, x.as(thing), 4);
        }
        LineStore y = new LineStore();
        for (int thing = 0; thing < 39; thing++) {
            CHECK.same("one of " + thing + " and the next", y.one(thing + 1, thing), true);
        }
        CHECK.same("all 40 are one", y.as(39), 0);
        CHECK.same("39 times", y.count(2), 39);
        CHECK.same("one counts as itself", y.count(3), 1);
    }

    private static void wereNotOne() {
        CHECK.topic("promise 10: whether they were not");
        LineStore x = new LineStore();
        CHECK.same("a thing and itself", x.one(7, 7), false);
        CHECK.same("two", x.one(7, 8), true);
        CHECK.same("again", x.one(7, 8), false);
        CHECK.same("the other way", x.one(8, 7), false);
        CHECK.same("a third", x.one(8, 9), true);
        CHECK.same("one by the second", x.one(7, 9), false);
        CHECK.same("made twice alone", x.count(2), 2);
    }

    private static void partedAgain() {
        CHECK.topic("promise 11: What was made ONE last is parted again: whether there was something");
        LineStore x = new LineStore();
        CHECK.same("nothing at first", x.part(), false);
        x.one(1, 2);
        x.one(2, 1);
        x.one(3, 3);
        CHECK.same("what was one already is not made", x.part(), true);
        CHECK.same("as of 2", x.as(2), 2);
        CHECK.same("nothing more", x.part(), false);
        for (int thing = 39; thing > 0; thing--) {
            x.one(thing, thing - 1);
        }
        for (int thing = 1; thing < 40; thing++) {
            CHECK.same("part of " + thing, x.part(), true);
            CHECK.same("as of 39 then", x.as(39), thing);
        }
        CHECK.same("nothing at last", x.part(), false);
        CHECK.same("all count as themselves", x.count(3), 40);
    }

    private static void asWhichItCounts() {
        CHECK.topic("promise 12: The THING as which a THING counts");
        LineStore x = new LineStore();
        CHECK.same("itself", x.as(39), 39);
        x.one(39, 0);
        CHECK.same("the lesser", x.as(39), 0);
        CHECK.same("the lesser itself", x.as(0), 0);
        x.part();
        CHECK.same("itself again", x.as(39), 39);
    }

    private static void lookAtALine() {
        CHECK.topic("promise 13: Of a LINE what 0 KIND, 1 its first day, 2 its last one, 3 ENDS");
        LineStore x = new LineStore();
        Steps.put(x, 5, 0, 1000, "0:1 0:2 0:3 0:4 0:5 0:6");
        Steps.put(x, 0, 1000, 1000, "0:L0");
        int[][] due = {{5, 0, 1000, 6, 1}, {0, 1000, 1000, 1, 0}};
        for (int line = 0; line < 2; line++) {
            for (int what = 0; what < 5; what++) {
                CHECK.same("look(" + line + ", " + what + ")", x.look(line, what), due[line][what]);
            }
        }
        for (int line : new int[] {2, -1, LEAST, MOST}) {
            CHECK.fails("line " + line, BOUNDS, () -> x.look(line, 0));
        }
    }

    private static void lastDayOfNever() {
        CHECK.topic("promise 13: 2 its last one (one less than the first, or less: never)");
        LineStore x = new LineStore();
        x.holds(0, false);
        Steps.put(x, 0, 0, 1000, "0:1");
        Steps.put(x, 0, 1000, 1000, "0:L0");
        CHECK.same("both struck on day 0", x.strike(0, 0), 2);
        CHECK.same("last day of line 0", x.look(0, 2), -1);
        CHECK.same("last day of line 1", x.look(1, 2), 999);
        CHECK.same("first day of line 0", x.look(0, 1), 0);
        CHECK.same("first day of line 1", x.look(1, 1), 1000);
    }

    private static void howManyHang() {
        CHECK.topic("promise 13: 4 how many LINES hang on it (whenever in force, or never)");
        LineStore x = new LineStore();
        Steps.put(x, 0, 0, 9, "0:1");
        CHECK.same("none", x.look(0, 4), 0);
        Steps.put(x, 0, 0, 0, "0:L0 1:L0");
        CHECK.same("one, by two ends", x.look(0, 4), 1);
        Steps.put(x, 0, 9, 9, "5:L0");
        CHECK.same("two, on other days", x.look(0, 4), 2);
        Steps.put(x, 0, 0, 0, "0:L1");
        CHECK.same("one hangs on line 1, not on 0", x.look(0, 4), 2);
        CHECK.same("on line 1", x.look(1, 4), 1);
        CHECK.same("struck", x.strike(2, 9), 1);
        CHECK.same("never in force", x.look(0, 4), 2);
        Steps.put(x, 0, 0, 9, "0:0 0:1");
        CHECK.same("a thing of the number is no line", x.look(0, 4) + x.look(1, 4), 3);
        for (int line = 5; line < 120; line++) {
            Steps.put(x, 0, 0, 9, "0:L0");
        }
        CHECK.same("117", x.look(0, 4), 117);
    }

    private static void anotherWhatOfLook() {
        CHECK.topic("promise 13: NoSuchElementException: another what");
        LineStore x = new LineStore();
        Steps.put(x, 0, 0, 9, "0:1");
        for (int what : new int[] {-1, 5, LEAST, MOST}) {
            CHECK.fails("what " + what, ELEMENT, () -> x.look(0, what));
        }
    }

    private static void asDrafted() {
        CHECK.topic("promise 14: Of END i (as drafted, from 0 on) of a LINE what 0 ROLE");
        LineStore x = new LineStore();
        Steps.put(x, 0, 0, 9, "5:39 0:0 5:0 2:7 5:39 1:1");
        int[] roles = {5, 0, 5, 2, 5, 1};
        int[] things = {39, 0, 0, 7, 39, 1};
        for (int end = 0; end < 6; end++) {
            CHECK.same("role of end " + end, x.ended(0, end, 0), roles[end]);
            CHECK.same("thing of end " + end, x.ended(0, end, 1), things[end]);
        }
    }

    private static void asItWasTold() {
        CHECK.topic("promise 14: 1 the THING as it was told (NONE: a LINE), 2 the LINE (NONE)");
        LineStore x = new LineStore();
        Steps.put(x, 0, 0, 9, "0:7");
        x.one(7, 3);
        Steps.put(x, 0, 0, 9, "0:L0 1:7 2:0");
        CHECK.same("made one behind it", x.ended(0, 0, 1), 7);
        CHECK.same("made one ahead of it", x.ended(1, 1, 1), 7);
        CHECK.same("a line is no thing", x.ended(1, 0, 1), -1);
        CHECK.same("it is line 0", x.ended(1, 0, 2), 0);
        CHECK.same("a thing is no line", x.ended(1, 1, 2), -1);
        CHECK.same("nor is thing 0", x.ended(1, 2, 2), -1);
        CHECK.same("it is thing 0", x.ended(1, 2, 1), 0);
    }

    private static void noneSuchOfEnded() {
        CHECK.topic("promise 14: NoSuchElementException: there is none such, or another what");
        LineStore x = new LineStore();
        Steps.put(x, 0, 0, 9, "0:1");
        Steps.put(x, 0, 0, 9, "0:1 0:2 0:3 0:4 0:5 0:6");
        for (int end : new int[] {1, 6, -1, LEAST, MOST}) {
            CHECK.fails("end " + end + " of one", ELEMENT, () -> x.ended(0, end, 0));
        }
        CHECK.same("the last of six", x.ended(1, 5, 1), 6);
        CHECK.fails("end 6 of six", ELEMENT, () -> x.ended(1, 6, 0));
        for (int what : new int[] {-1, 3, LEAST, MOST}) {
            CHECK.fails("what " + what, ELEMENT, () -> x.ended(0, 0, what));
        }
        for (int line : new int[] {2, -1, LEAST, MOST}) {
            CHECK.fails("line " + line, BOUNDS, () -> x.ended(line, 0, 0));
        }
    }

    private static void counts() {
        CHECK.topic("promise 21: 0 LINES, 1 ENDS of the draft, 4 ATOMS of the QUESTION, 5 its VARIABLES");
        LineStore x = new LineStore();
        Steps.put(x, 0, 0, 9, "0:1");
        Steps.put(x, 0, 0, 9, "0:1");
        x.strike(0, 0);
        CHECK.same("lines, a struck one too", x.count(0), 2);
        Steps.draft(x, "0:1 0:1 0:L0");
        CHECK.same("ends, alike ones too", x.count(1), 3);
        String[] texts = {"k0(r0t1)", "k0(r0a,r0a),k0(r0a)", "k0(r0c),k0(r0b),not k0(r0c)", "k0(r0a,r0b,r0c)"};
        int[] atoms = {1, 2, 3, 1};
        for (int i = 0; i < texts.length; i++) {
            Texts.ask(x, texts[i]);
            CHECK.same("atoms of '" + texts[i] + "'", x.count(4), atoms[i]);
            CHECK.same("variables of '" + texts[i] + "', each once", x.count(5), i);
        }
    }

    private static void countOfOnes() {
        CHECK.topic("promise 21: 2 how often THINGS were made ONE and not parted, 3 THINGS that count as themselves");
        LineStore x = new LineStore();
        x.one(1, 2);
        x.one(2, 1);
        CHECK.same("made once", x.count(2), 1);
        CHECK.same("39 as themselves", x.count(3), 39);
        x.one(3, 4);
        x.one(4, 2);
        CHECK.same("made three times", x.count(2), 3);
        CHECK.same("37 as themselves", x.count(3), 37);
        x.part();
        CHECK.same("one parted", x.count(2), 2);
        CHECK.same("38 as themselves", x.count(3), 38);
        x.part();
        x.part();
        x.part();
        CHECK.same("all parted", x.count(2), 0);
        CHECK.same("40 as themselves", x.count(3), 40);
    }

    private static void countOfAnotherWhat() {
        CHECK.topic("promise 21: NONE for another what");
        LineStore x = new LineStore();
        for (int what : new int[] {-1, 6, LEAST, MOST}) {
            CHECK.same("what " + what, x.count(what), -1);
        }
        CHECK.same("NONE is -1", LineStore.NONE, -1);
    }
}
