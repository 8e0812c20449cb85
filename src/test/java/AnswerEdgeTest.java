/** The edges that the document names of ANSWERS, WAYS and degrees: a test for each sentence. */
public final class AnswerEdgeTest {
    private static final Checker CHECK = new Checker();
    private static final int LEAST = Integer.MIN_VALUE;
    private static final int MOST = Integer.MAX_VALUE;

    private AnswerEdgeTest() {
    }

    public static void main(String[] args) {
        CHECK.runAll(AnswerEdgeTest::allWays, AnswerEdgeTest::leastNumberAlone, AnswerEdgeTest::trueWithoutNot,
                AnswerEdgeTest::notTrueWithNot, AnswerEdgeTest::ofItsKind, AnswerEdgeTest::inForceOnThatDay,
                AnswerEdgeTest::forEachPart, AnswerEdgeTest::oneLineForAllParts, AnswerEdgeTest::oneEndForTwoParts,
                AnswerEdgeTest::thingOrOneWithIt, AnswerEdgeTest::lineIsNoThing, AnswerEdgeTest::byAThenBThenC,
                AnswerEdgeTest::thoseThatThereAre, AnswerEdgeTest::withoutVariables,
                AnswerEdgeTest::aheadOfAnyQuestion, AnswerEdgeTest::answersFromNoneOn,
                AnswerEdgeTest::answersOfNoneSuch, AnswerEdgeTest::byWhatIsThereNow,
                AnswerEdgeTest::leastNumberOfLines, AnswerEdgeTest::linesInForceThen, AnswerEdgeTest::kindsAsBits,
                AnswerEdgeTest::thingInCommon, AnswerEdgeTest::inWhateverRoles, AnswerEdgeTest::whatIsOneIsOne,
                AnswerEdgeTest::noneIfTheyAreOne, AnswerEdgeTest::withoutAWay, AnswerEdgeTest::howManyLines,
                AnswerEdgeTest::thingInARole);
        CHECK.finish();
    }

    private static String ask(LineStore x, String text, int day) {
        Texts.ask(x, text);
        return Steps.answers(x, day);
    }

    private static int howMany(LineStore x, String text, int day) {
        Texts.ask(x, text);
        return x.answers(day);
    }

    private static void allWays() {
        CHECK.topic("promise 17: ANSWERS: all ways to give a THING to each VARIABLE of it");
        LineStore x = new LineStore();
        for (int line = 0; line < 7; line++) {
            int thing = 6 * line;
            int last = Math.min(thing + 5, 39);
            StringBuilder ends = new StringBuilder("0:" + thing);
            for (int more = thing + 1; more <= last; more++) {
                ends.append(" 0:").append(more);
            }
            Steps.put(x, 0, 0, 9, ends.toString());
        }
        Texts.ask(x, "k0(r0a),k0(r0b),k0(r0c)");
        CHECK.same("40 of each", x.answers(0), 64000);
        for (int n : new int[] {0, 1, 39, 40, 1599, 1600, 31999, 63999}) {
            CHECK.same("a of " + n, x.answer(0, n, 0), n / 1600);
            CHECK.same("b of " + n, x.answer(0, n, 1), n / 40 % 40);
            CHECK.same("c of " + n, x.answer(0, n, 2), n % 40);
        }
        CHECK.same("none behind them", x.answer(0, 64000, 0), -1);
        Texts.ask(x, "k0(r0a,r0b)");
        CHECK.same("the lines' own pairs", x.answers(0), 6 * 36 + 16);
    }

    private static void leastNumberAlone() {
        CHECK.topic("promise 17: (of THINGS that are ONE the least number alone)");
        LineStore x = new LineStore();
        Steps.put(x, 0, 0, 9, "0:7 0:9 0:20");
        CHECK.same("none is one", ask(x, "k0(r0a)", 0), "7,-,- 9,-,- 20,-,-");
        x.one(9, 20);
        CHECK.same("9 for 20", Steps.answers(x, 0), "7,-,- 9,-,-");
        x.one(20, 3);
        CHECK.same("3, which is no end itself", Steps.answers(x, 0), "3,-,- 7,-,-");
        x.one(3, 7);
        CHECK.same("all are one", Steps.answers(x, 0), "3,-,-");
        x.part();
        x.part();
        CHECK.same("parted", Steps.answers(x, 0), "7,-,- 9,-,-");
    }

    private static void trueWithoutNot() {
        CHECK.topic("promise 17: by which each ATOM without not is true");
        LineStore x = new LineStore();
        Steps.put(x, 0, 0, 9, "0:1 0:2 0:3");
        Steps.put(x, 1, 0, 9, "0:2 0:3");
        Steps.put(x, 2, 0, 9, "0:3");
        CHECK.same("the first", ask(x, "k0(r0a)", 0), "1,-,- 2,-,- 3,-,-");
        CHECK.same("the first two", ask(x, "k0(r0a),k1(r0a)", 0), "2,-,- 3,-,-");
        CHECK.same("all of six", ask(x, "k0(r0a),k0(r0a),k0(r0a),k0(r0a),k1(r0a),k2(r0a)", 0), "3,-,-");
        CHECK.same("one without variables is false", ask(x, "k0(r0a),k2(r0t1)", 0), "");
        CHECK.same("one without variables is true", ask(x, "k2(r0t3),k1(r0a)", 0), "2,-,- 3,-,-");
    }

    private static void notTrueWithNot() {
        CHECK.topic("promise 17: and each with not is not");
        LineStore x = new LineStore();
        Steps.put(x, 0, 0, 9, "0:1 0:2 0:3 1:4");
        Steps.put(x, 1, 0, 9, "0:2");
        Steps.put(x, 2, 0, 9, "0:3 1:4");
        CHECK.same("without 2", ask(x, "k0(r0a),not k1(r0a)", 0), "1,-,- 3,-,-");
        CHECK.same("without 2 and 3", ask(x, "k0(r0a),not k1(r0a),not k2(r0a)", 0), "1,-,-");
        CHECK.same("a pair of both", ask(x, "k0(r0a,r1b),not k2(r0a,r1b)", 0), "1,4,- 2,4,-");
        CHECK.same("without all", ask(x, "k0(r0a),not k0(r0a)", 0), "");
        CHECK.same("not without variables, true", ask(x, "k1(r0a),not k1(r0t1)", 0), "2,-,-");
        CHECK.same("not without variables, false", ask(x, "k1(r0a),not k1(r0t2)", 0), "");
        CHECK.same("five with not", ask(x,
                "k0(r0a),not k1(r0a),not k3(r0a),not k4(r0a),not k5(r0a),not k2(r0a)", 0), "1,-,-");
    }

    private static void ofItsKind() {
        CHECK.topic("promise 17: An ATOM is true, if there is a LINE of its KIND");
        LineStore x = new LineStore();
        for (int kind = 0; kind < 6; kind++) {
            Steps.put(x, kind, 0, 9, "0:" + (10 + kind));
        }
        for (int kind = 0; kind < 6; kind++) {
            CHECK.same("kind " + kind, ask(x, "k" + kind + "(r0a)", 0), (10 + kind) + ",-,-");
        }
    }

    private static void inForceOnThatDay() {
        CHECK.topic("promise 17: a LINE, in force on that day");
        LineStore x = new LineStore();
        Steps.put(x, 0, 5, 9, "0:1");
        Steps.put(x, 0, 9, 12, "0:2");
        Texts.ask(x, "k0(r0a)");
        int[] days = {4, 5, 8, 9, 10, 12, 13};
        String[] due = {"", "1,-,-", "1,-,-", "1,-,- 2,-,-", "2,-,-", "2,-,-", ""};
        for (int i = 0; i < days.length; i++) {
            CHECK.same("on " + days[i], Steps.answers(x, days[i]), due[i]);
        }
        x.strike(0, 9);
        CHECK.same("struck on 9", Steps.answers(x, 9), "2,-,-");
        CHECK.same("not before", Steps.answers(x, 8), "1,-,-");
        x.strike(1, 9);
        CHECK.same("never", Steps.answers(x, 9), "");
        Texts.ask(x, "not k0(r0t1)");
        CHECK.same("not, on its last day", x.answers(8), 0);
        CHECK.same("not, on the day behind", x.answers(9), 1);
    }

    private static void forEachPart() {
        CHECK.topic("promise 17: that has, for each PART, an END in that ROLE");
        LineStore x = new LineStore();
        Steps.put(x, 0, 0, 9, "0:1 1:2 2:3 5:4");
        CHECK.same("four parts", ask(x, "k0(r0a,r1b,r2c,r5t4)", 0), "1,2,3");
        CHECK.same("in any order", ask(x, "k0(r5t4,r2c,r1b,r0a)", 0), "1,2,3");
        CHECK.same("the fourth has no end", ask(x, "k0(r0a,r1b,r2c,r4t4)", 0), "");
        CHECK.same("the fourth has another thing", ask(x, "k0(r0a,r1b,r2c,r5t5)", 0), "");
        CHECK.same("the first has no end", ask(x, "k0(r3a,r1b,r2c,r5t4)", 0), "");
        CHECK.same("ends beside are free", ask(x, "k0(r1b)", 0), "-,2,-");
        Steps.put(x, 1, 0, 9, "0:1 0:2 1:2 1:3");
        CHECK.same("one variable in two roles", ask(x, "k1(r0a,r1a)", 0), "2,-,-");
        CHECK.same("one variable and a thing", ask(x, "k1(r0t1,r1a)", 0), "2,-,- 3,-,-");
    }

    private static void oneLineForAllParts() {
        CHECK.topic("promise 17: there is a LINE that has, for each PART, an END: one LINE for all of them");
        LineStore x = new LineStore();
        Steps.put(x, 0, 0, 9, "0:1 1:2");
        Steps.put(x, 0, 0, 9, "0:3 1:4");
        CHECK.same("an atom", ask(x, "k0(r0a,r1b)", 0), "1,2,- 3,4,-");
        CHECK.same("two atoms", ask(x, "k0(r0a),k0(r1b)", 0), "1,2,- 1,4,- 3,2,- 3,4,-");
        CHECK.same("things of two lines", ask(x, "k0(r0t1,r1t4)", 0), "");
        CHECK.same("not of one line", ask(x, "k0(r0a),k0(r1b),not k0(r0a,r1b)", 0), "1,4,- 3,2,-");
    }

    private static void oneEndForTwoParts() {
        CHECK.topic("promise 17: for each PART, an END: the same one, too");
        LineStore x = new LineStore();
        Steps.put(x, 0, 0, 9, "0:1");
        Steps.put(x, 0, 0, 9, "1:2 1:3");
        CHECK.same("two variables", ask(x, "k0(r0a,r0b)", 0), "1,1,-");
        CHECK.same("one variable twice", ask(x, "k0(r0a,r0a)", 0), "1,-,-");
        CHECK.same("a variable and its thing", ask(x, "k0(r0c,r0t1)", 0), "-,-,1");
        CHECK.same("of two ends", ask(x, "k0(r1a,r1b)", 0), "2,2,- 2,3,- 3,2,- 3,3,-");
        CHECK.same("of two lines", ask(x, "k0(r0a,r1b)", 0), "");
    }

    private static void thingOrOneWithIt() {
        CHECK.topic("promise 17: an END in that ROLE that is that THING (or ONE with it)");
        LineStore x = new LineStore();
        Steps.put(x, 0, 0, 9, "0:10 1:20");
        Steps.put(x, 1, 0, 9, "0:30");
        CHECK.same("not one yet", howMany(x, "k0(r0t30)", 0), 0);
        x.one(10, 30);
        CHECK.same("a thing one with the end", x.answers(0), 1);
        CHECK.same("a variable of two atoms", ask(x, "k0(r0a),k1(r0a)", 0), "10,-,-");
        x.one(20, 30);
        CHECK.same("a variable of two ends", ask(x, "k0(r0a,r1a)", 0), "10,-,-");
        CHECK.same("not by what is one", ask(x, "k0(r0a),not k1(r0a)", 0), "");
        x.one(20, 2);
        CHECK.same("a thing that is the least", howMany(x, "k0(r1t2,r0t30)", 0), 1);
        x.part();
        CHECK.same("parted", x.answers(0), 0);
    }

    private static void lineIsNoThing() {
        CHECK.topic("promise 17: an END that is that THING: an END that is a LINE is none");
        LineStore x = new LineStore();
        Steps.put(x, 0, 0, 9, "0:7");
        Steps.put(x, 1, 0, 9, "0:L0 1:5");
        Steps.put(x, 1, 0, 9, "0:L1");
        CHECK.same("a variable", ask(x, "k1(r0a)", 0), "");
        CHECK.same("the thing of its number", howMany(x, "k1(r0t0)", 0), 0);
        CHECK.same("the end beside", ask(x, "k1(r1a)", 0), "5,-,-");
        CHECK.same("both", ask(x, "k1(r0b,r1a)", 0), "");
    }

    private static void byAThenBThenC() {
        CHECK.topic("promise 18: ANSWERS lie by a, then b, then c");
        LineStore x = new LineStore();
        Steps.put(x, 0, 0, 9, "0:2 0:1 1:39 1:0 2:5 2:4");
        CHECK.same("a, b, c in roles 0, 1, 2", ask(x, "k0(r0a,r1b,r2c)", 0),
                "1,0,4 1,0,5 1,39,4 1,39,5 2,0,4 2,0,5 2,39,4 2,39,5");
        CHECK.same("c told first, a last", ask(x, "k0(r0c),k0(r1b),k0(r2a)", 0),
                "4,0,1 4,0,2 4,39,1 4,39,2 5,0,1 5,0,2 5,39,1 5,39,2");
        Steps.put(x, 1, 0, 9, "0:9 1:3");
        Steps.put(x, 1, 0, 9, "0:3 1:9");
        CHECK.same("not by the lines' numbers", ask(x, "k1(r0a,r1b)", 0), "3,9,- 9,3,-");
    }

    private static void thoseThatThereAre() {
        CHECK.topic("promise 18: by a, then b, then c (those that there are)");
        LineStore x = new LineStore();
        Steps.put(x, 0, 0, 9, "0:2 0:1 1:3 1:4");
        CHECK.same("b alone", ask(x, "k0(r0b)", 0), "-,1,- -,2,-");
        CHECK.same("c alone", ask(x, "k0(r0c)", 0), "-,-,1 -,-,2");
        CHECK.same("a and c", ask(x, "k0(r0c,r1a)", 0), "3,-,1 3,-,2 4,-,1 4,-,2");
        CHECK.same("b and c", ask(x, "k0(r0c,r1b)", 0), "-,3,1 -,3,2 -,4,1 -,4,2");
        CHECK.same("a and b", ask(x, "k0(r0b,r1a)", 0), "3,1,- 3,2,- 4,1,- 4,2,-");
    }

    private static void withoutVariables() {
        CHECK.topic("promise 17: A QUESTION without VARIABLES has one ANSWER, if it is true, or none");
        LineStore x = new LineStore();
        Steps.put(x, 0, 0, 9, "0:1 1:2");
        Steps.put(x, 0, 0, 9, "0:1 1:2");
        String[] texts = {"k0(r0t1)", "k0(r0t2)", "not k0(r0t1)", "not k0(r0t2)", "k0(r0t1),k0(r1t2)",
            "k0(r0t1),k0(r1t1)", "k0(r0t1),not k0(r1t1)", "k0(r0t1),not k0(r1t2)", "not k0(r0t3),not k0(r1t3)"};
        int[] due = {1, 0, 0, 1, 1, 0, 1, 0, 1};
        for (int i = 0; i < texts.length; i++) {
            Texts.ask(x, texts[i]);
            CHECK.same("answers of '" + texts[i] + "'", x.answers(0), due[i]);
            for (int variable = 0; variable < 3; variable++) {
                CHECK.same("variable " + variable + " of '" + texts[i] + "'", x.answer(0, 0, variable), -1);
            }
        }
        CHECK.same("not alone, ahead of any line's days", x.answers(-1), 1);
        CHECK.same("not alone, behind any line's days", x.answers(1001), 1);
    }

    private static void aheadOfAnyQuestion() {
        CHECK.topic("promise 17: (0 ahead of any QUESTION)");
        LineStore x = new LineStore();
        CHECK.same("of a new object", x.answers(0), 0);
        Steps.put(x, 0, 0, 9, "0:1");
        CHECK.same("with a line", x.answers(0), 0);
        Texts.feed(x, "k0(r0a)");
        CHECK.same("ahead of question()", x.answers(0), 0);
        Texts.fault(x, "k0(r0a");
        CHECK.same("behind a wrong one", x.answers(0), 0);
        CHECK.same("its answer", x.answer(0, 0, 0), -1);
    }

    private static void answersFromNoneOn() {
        CHECK.topic("promise 18: Of ANSWER n (from 0 on) the THING of VARIABLE a, b, c (0, 1, 2)");
        LineStore x = new LineStore();
        Steps.put(x, 0, 0, 9, "0:0 1:39 2:20");
        Texts.ask(x, "k0(r0a,r1b,r2c)");
        CHECK.same("there is one", x.answers(0), 1);
        CHECK.same("a", x.answer(0, 0, 0), 0);
        CHECK.same("b", x.answer(0, 0, 1), 39);
        CHECK.same("c", x.answer(0, 0, 2), 20);
    }

    private static void answersOfNoneSuch() {
        CHECK.topic("promise 18: NONE if there is none such");
        LineStore x = new LineStore();
        CHECK.same("ahead of any question", x.answer(0, 0, 0), -1);
        Steps.put(x, 0, 5, 9, "0:0 0:1");
        Texts.ask(x, "k0(r0b)");
        CHECK.same("the last", x.answer(5, 1, 1), 1);
        for (int n : new int[] {2, -1, 64000, LEAST, MOST}) {
            CHECK.same("answer " + n, x.answer(5, n, 1), -1);
        }
        for (int variable : new int[] {0, 2, -1, 3, 32, 33, LEAST, MOST}) {
            CHECK.same("variable " + variable, x.answer(5, 0, variable), -1);
        }
        for (int day : new int[] {4, 10, -1, 1001, LEAST, MOST}) {
            CHECK.same("on day " + day, x.answer(day, 0, 1), -1);
        }
    }

    private static void byWhatIsThereNow() {
        CHECK.topic("promises 17, 18: How many ANSWERS the QUESTION has on a day, as all stands then");
        LineStore x = new LineStore();
        Texts.ask(x, "k0(r0a)");
        CHECK.same("ahead of the line", x.answers(0), 0);
        Steps.put(x, 0, 0, 9, "0:1 0:2");
        CHECK.same("behind it", Steps.answers(x, 0), "1,-,- 2,-,-");
        x.one(1, 2);
        CHECK.same("made one", Steps.answers(x, 0), "1,-,-");
        x.part();
        CHECK.same("parted", Steps.answers(x, 0), "1,-,- 2,-,-");
        CHECK.same("another day between", x.answers(10), 0);
        x.strike(0, 0);
        CHECK.same("struck", x.answers(0), 0);
    }

    private static void leastNumberOfLines() {
        CHECK.topic("promise 19: the least number of LINES, one after the other");
        LineStore x = new LineStore();
        for (int thing = 0; thing < 39; thing++) {
            Steps.put(x, 0, 0, 9, "0:" + thing + " 1:" + (thing + 1));
        }
        CHECK.same("one line", x.ways(0, 1, 1, 0), 1);
        CHECK.same("two lines", x.ways(0, 2, 1, 0), 2);
        CHECK.same("all 39", x.ways(0, 39, 1, 0), 39);
        CHECK.same("back", x.ways(39, 0, 1, 0), 39);
        Steps.put(x, 1, 0, 9, "0:5 0:30");
        CHECK.same("a shorter one beside", x.ways(0, 39, 3, 0), 5 + 1 + 9);
        CHECK.same("not of its kind", x.ways(0, 39, 1, 0), 39);
        Steps.put(x, 2, 0, 9, "0:39 1:20 2:10 3:0");
        CHECK.same("one line of four ends", x.ways(0, 39, 7, 0), 1);
    }

    private static void linesInForceThen() {
        CHECK.topic("promise 19: LINES, in force then");
        LineStore x = new LineStore();
        Steps.put(x, 0, 5, 9, "0:1 0:2");
        Steps.put(x, 0, 9, 12, "0:2 0:3");
        int[] days = {4, 5, 8, 9, 10, 12, 13};
        int[] first = {-1, 1, 1, 1, -1, -1, -1};
        int[] both = {-1, -1, -1, 2, -1, -1, -1};
        for (int i = 0; i < days.length; i++) {
            CHECK.same("1 to 2 on " + days[i], x.ways(1, 2, 1, days[i]), first[i]);
            CHECK.same("1 to 3 on " + days[i], x.ways(1, 3, 1, days[i]), both[i]);
        }
        x.strike(1, 9);
        CHECK.same("never in force", x.ways(2, 3, 1, 9), -1);
    }

    private static void kindsAsBits() {
        CHECK.topic("promise 19: by LINES of some KINDS (bits)");
        LineStore x = new LineStore();
        for (int kind = 0; kind < 6; kind++) {
            Steps.put(x, kind, 0, 9, "0:" + kind + " 0:" + (kind + 1));
        }
        for (int kind = 0; kind < 6; kind++) {
            int bit = 1 << kind;
            CHECK.same("kind " + kind, x.ways(kind, kind + 1, bit, 0), 1);
            CHECK.same("all but kind " + kind, x.ways(kind, kind + 1, 63 - bit, 0), -1);
            CHECK.same("all but it, and bits of no kind", x.ways(kind, kind + 1, ~bit, 0), -1);
            CHECK.same("it, and bits of no kind", x.ways(kind, kind + 1, -64 | bit, 0), 1);
        }
        CHECK.same("all kinds", x.ways(0, 6, 63, 0), 6);
        CHECK.same("no kinds", x.ways(0, 1, 0, 0), -1);
        CHECK.same("bits of no kind", x.ways(0, 1, -64, 0), -1);
        CHECK.same("the least number", x.ways(0, 1, LEAST, 0), -1);
        CHECK.same("the greatest number", x.ways(0, 6, MOST, 0), 6);
    }

    private static void thingInCommon() {
        CHECK.topic("promise 19: each next one some THING in common with the one before");
        LineStore x = new LineStore();
        Steps.put(x, 0, 0, 9, "0:1 0:2");
        Steps.put(x, 0, 0, 9, "0:3 0:4");
        CHECK.same("none in common", x.ways(1, 4, 1, 0), -1);
        Steps.put(x, 0, 0, 9, "0:5 0:L0");
        Steps.put(x, 0, 0, 9, "0:6 0:L0");
        CHECK.same("a line in common is none", x.ways(5, 6, 1, 0), -1);
        CHECK.same("a line's thing is not its own", x.ways(5, 1, 1, 0), -1);
        CHECK.same("nor the thing of the line's number", x.ways(5, 0, 1, 0), -1);
        Steps.put(x, 0, 0, 9, "0:2 0:3");
        CHECK.same("one between", x.ways(1, 4, 1, 0), 3);
    }

    private static void inWhateverRoles() {
        CHECK.topic("promise 19: (in whatever ROLES)");
        LineStore x = new LineStore();
        Steps.put(x, 0, 0, 9, "0:1 5:2");
        Steps.put(x, 0, 0, 9, "3:2 4:3");
        CHECK.same("in roles 5 and 3", x.ways(1, 3, 1, 0), 2);
        CHECK.same("from role 4 to role 0", x.ways(3, 1, 1, 0), 2);
    }

    private static void whatIsOneIsOne() {
        CHECK.topic("promise 19: (what is ONE is one)");
        LineStore x = new LineStore();
        Steps.put(x, 0, 0, 9, "0:1 0:2");
        Steps.put(x, 0, 0, 9, "0:3 0:4");
        x.one(3, 2);
        CHECK.same("in common", x.ways(1, 4, 1, 0), 2);
        x.one(4, 30);
        CHECK.same("at the end", x.ways(1, 30, 1, 0), 2);
        x.one(1, 20);
        CHECK.same("at the begin", x.ways(20, 30, 1, 0), 2);
        x.part();
        CHECK.same("parted at the begin", x.ways(20, 30, 1, 0), -1);
        x.part();
        x.part();
        CHECK.same("parted in common", x.ways(1, 4, 1, 0), -1);
    }

    private static void noneIfTheyAreOne() {
        CHECK.topic("promise 19: 0 if they are ONE");
        LineStore x = new LineStore();
        Steps.put(x, 0, 0, 9, "0:1 0:2");
        CHECK.same("one line between", x.ways(1, 2, 1, 0), 1);
        x.one(2, 1);
        CHECK.same("one", x.ways(1, 2, 1, 0), 0);
        CHECK.same("without kinds", x.ways(2, 1, 0, 0), 0);
        CHECK.same("a thing and itself", x.ways(39, 39, 1, 0), 0);
        CHECK.same("on a day without lines", x.ways(1, 2, 1, 10), 0);
        x.part();
        CHECK.same("parted", x.ways(1, 2, 1, 0), 1);
    }

    private static void withoutAWay() {
        CHECK.topic("promise 19: NONE without one");
        LineStore x = new LineStore();
        CHECK.same("without lines", x.ways(0, 39, 63, 0), -1);
        Steps.put(x, 0, 0, 9, "0:1 0:2");
        CHECK.same("to a thing of no line", x.ways(1, 3, 63, 0), -1);
        CHECK.same("from a thing of no line", x.ways(3, 1, 63, 0), -1);
        CHECK.same("between things of no line", x.ways(3, 4, 63, 0), -1);
    }

    private static void howManyLines() {
        CHECK.topic("promise 20: In how many LINES of a KIND, in force on a day");
        LineStore x = new LineStore();
        CHECK.same("without lines", x.degree(1, 0, 0, 0), 0);
        Steps.put(x, 0, 5, 9, "0:1");
        Steps.put(x, 0, 9, 12, "0:1");
        Steps.put(x, 1, 0, 1000, "0:1");
        int[] days = {-1, 0, 4, 5, 8, 9, 10, 12, 13, 1000, 1001};
        int[] due = {0, 0, 0, 1, 1, 2, 1, 1, 0, 0, 0};
        for (int i = 0; i < days.length; i++) {
            CHECK.same("on " + days[i], x.degree(1, 0, 0, days[i]), due[i]);
        }
        x.strike(0, 9);
        CHECK.same("struck on 9", x.degree(1, 0, 0, 9), 1);
        LineStore y = new LineStore();
        for (int line = 0; line < 120; line++) {
            Steps.put(y, 5, 0, 9, "5:39");
        }
        CHECK.same("all 120", y.degree(39, 5, 5, 9), 120);
    }

    private static void thingInARole() {
        CHECK.topic("promise 20: a THING is in a ROLE");
        LineStore x = new LineStore();
        Steps.put(x, 0, 0, 9, "0:1 0:1 0:2 1:3");
        Steps.put(x, 0, 0, 9, "1:1 0:L0 0:0");
        CHECK.same("twice in a line, which counts once", x.degree(1, 0, 0, 0), 1);
        CHECK.same("in another role", x.degree(1, 0, 1, 0), 1);
        CHECK.same("in no line", x.degree(1, 0, 2, 0), 0);
        CHECK.same("a line is not the thing of its number", x.degree(0, 0, 0, 0), 1);
        x.one(2, 1);
        CHECK.same("with what is one, once a line", x.degree(2, 0, 0, 0), 1);
        x.one(0, 2);
        CHECK.same("with all that is one", x.degree(1, 0, 0, 0), 2);
        x.part();
        CHECK.same("parted", x.degree(1, 0, 0, 0), 1);
    }
}
