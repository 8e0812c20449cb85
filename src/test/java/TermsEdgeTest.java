/** The edges that the document's section 'Terms' names of LINES, LAWS and strikes: a test for each sentence. */
public final class TermsEdgeTest {
    private static final Checker CHECK = new Checker();
    private static final Class<IndexOutOfBoundsException> BOUNDS = IndexOutOfBoundsException.class;
    private static final Class<IllegalArgumentException> ARGUMENT = IllegalArgumentException.class;
    private static final Class<UnsupportedOperationException> FULL = UnsupportedOperationException.class;
    private static final int LEAST = Integer.MIN_VALUE;
    private static final int MOST = Integer.MAX_VALUE;

    private TermsEdgeTest() {
    }

    public static void main(String[] args) {
        CHECK.runAll(TermsEdgeTest::calls, TermsEdgeTest::things, TermsEdgeTest::roles, TermsEdgeTest::kinds,
                TermsEdgeTest::days, TermsEdgeTest::leastNumber, TermsEdgeTest::lastIsPartedFirst,
                TermsEdgeTest::numbersOfLines, TermsEdgeTest::spanWithBothDays, TermsEdgeTest::oneToSixEnds,
                TermsEdgeTest::lineOfLesserNumber, TermsEdgeTest::inForceOnItsDays, TermsEdgeTest::lawOfEndsAtFirst,
                TermsEdgeTest::lawOfEndsNoneAndSix, TermsEdgeTest::lawOfLinesAtOnce,
                TermsEdgeTest::lawOfHoldingAtFirst, TermsEdgeTest::lawOfEndsFromThenOn,
                TermsEdgeTest::lawOfLinesAtOnceFromThenOn, TermsEdgeTest::fewerOrMoreEnds,
                TermsEdgeTest::noneOfARoleThatMustBe, TermsEdgeTest::endNotInForce, TermsEdgeTest::tooManyOnSomeDay,
                TermsEdgeTest::tooManyInThatRoleAlone, TermsEdgeTest::itselfToo, TermsEdgeTest::onceALine,
                TermsEdgeTest::byWhatIsOneNow, TermsEdgeTest::firstRefusalCounts, TermsEdgeTest::upToTheDayBefore,
                TermsEdgeTest::neverInForce, TermsEdgeTest::heldOnThatDayOrLater, TermsEdgeTest::struckOnThatDay,
                TermsEdgeTest::struckOnItsOwnFirstDay, TermsEdgeTest::overBeforeThatDay, TermsEdgeTest::byItsOwnKind,
                TermsEdgeTest::nothingAtAll, TermsEdgeTest::keepsItsNumber);
        CHECK.finish();
    }

    private static void calls() {
        CHECK.topic("all promises: at most 512 calls after it has been made");
        LineStore x = new LineStore();
        for (int i = 1; i <= 128; i++) {
            CHECK.same("one, call " + (4 * i - 3), x.one(0, 39), true);
            CHECK.same("part, call " + (4 * i - 2), x.part(), true);
            CHECK.same("feed, call " + (4 * i - 1), x.feed(i, i, i, i, i), 20);
            CHECK.same("end, call " + 4 * i, x.end(0), true);
        }
        LineStore y = new LineStore();
        y.ends(0, 0, 0, 0);
        for (int i = 1; i <= 255; i++) {
            CHECK.same("draft, call " + 2 * i, y.draft(0, false, 39), 1);
            CHECK.same("put, call " + (2 * i + 1), y.put(0, 0, 1000), -1);
        }
        CHECK.same("count, call 512", y.count(0), 0);
        LineStore z = new LineStore();
        for (int i = 1; i <= 512; i++) {
            CHECK.fails("question, call " + i, ARGUMENT, () -> z.question());
        }
    }

    private static void things() {
        CHECK.topic("promises 7, 10, 12, 15, 19, 20: THINGS 0 to 39");
        LineStore x = new LineStore();
        for (int thing : new int[] {0, 39}) {
            CHECK.same("as of " + thing, x.as(thing), thing);
            CHECK.same("draft of " + thing, x.draft(0, false, thing), 1);
            CHECK.same("put of " + thing, x.put(0, 0, 0), thing == 0 ? 0 : 1);
            CHECK.same("degree of " + thing, x.degree(thing, 0, 0, 0), 1);
            CHECK.same("ways from " + thing, x.ways(thing, 20, 1, 0), -1);
            CHECK.same("ways to " + thing, x.ways(20, thing, 1, 0), -1);
            CHECK.same("question of " + thing, Texts.fault(x, "k0(r0t" + thing + ")"), -1);
            CHECK.same("its answer", x.answers(0), 1);
        }
        CHECK.same("one of 0 and 39", x.one(0, 39), true);
        for (int wrong : new int[] {-1, 40, LEAST, MOST}) {
            CHECK.fails("as of " + wrong, BOUNDS, () -> x.as(wrong));
            CHECK.fails("draft of " + wrong, BOUNDS, () -> x.draft(0, false, wrong));
            CHECK.fails("one of " + wrong + " and 1", BOUNDS, () -> x.one(wrong, 1));
            CHECK.fails("one of 1 and " + wrong, BOUNDS, () -> x.one(1, wrong));
            CHECK.fails("degree of " + wrong, BOUNDS, () -> x.degree(wrong, 0, 0, 0));
            CHECK.fails("ways from " + wrong, BOUNDS, () -> x.ways(wrong, 1, 1, 0));
            CHECK.fails("ways to " + wrong, BOUNDS, () -> x.ways(1, wrong, 1, 0));
        }
        CHECK.same("question of 40", Texts.fault(x, "k0(r0t40)"), 6);
    }

    private static void roles() {
        CHECK.topic("promises 4, 5, 7, 15, 20: ROLES 0 to 5");
        LineStore x = new LineStore();
        for (int role : new int[] {0, 5}) {
            CHECK.same("ends of " + role, Checker.outcome(() -> Steps.ends(x, 0, role, 0, 1)), "made");
            CHECK.same("alone of " + role, Checker.outcome(() -> Steps.alone(x, 0, role, 2)), "made");
            CHECK.same("draft of " + role, x.draft(role, false, 1), 1);
            CHECK.same("put of " + role, x.put(0, 0, 0), role == 0 ? 0 : 1);
            CHECK.same("degree of " + role, x.degree(1, 0, role, 0), 1);
            CHECK.same("question of " + role, Texts.fault(x, "k0(r" + role + "a)"), -1);
            CHECK.same("its answer", x.answers(0), 1);
        }
        for (int wrong : new int[] {-1, 6, LEAST, MOST}) {
            CHECK.fails("ends of " + wrong, BOUNDS, () -> Steps.ends(x, 0, wrong, 0, 1));
            CHECK.fails("alone of " + wrong, BOUNDS, () -> Steps.alone(x, 0, wrong, 2));
            CHECK.fails("draft of " + wrong, BOUNDS, () -> x.draft(wrong, false, 1));
            CHECK.fails("draft of a line, " + wrong, BOUNDS, () -> x.draft(wrong, true, 0));
            CHECK.fails("degree of " + wrong, BOUNDS, () -> x.degree(1, 0, wrong, 0));
        }
        CHECK.same("question of 6", Texts.fault(x, "k0(r6a)"), 4);
    }

    private static void kinds() {
        CHECK.topic("promises 4, 5, 6, 8, 15, 19, 20: KINDS of LINES 0 to 5");
        LineStore x = new LineStore();
        for (int kind : new int[] {0, 5}) {
            CHECK.same("ends of " + kind, Checker.outcome(() -> Steps.ends(x, kind, 0, 0, 2)), "made");
            CHECK.same("alone of " + kind, Checker.outcome(() -> Steps.alone(x, kind, 0, 2)), "made");
            CHECK.same("holds of " + kind, x.holds(kind, false), true);
            CHECK.same("put of " + kind, Steps.put(x, kind, 0, 0, "0:1 0:2"), kind == 0 ? 0 : 1);
            CHECK.same("degree of " + kind, x.degree(1, kind, 0, 0), 1);
            CHECK.same("ways by " + kind, x.ways(1, 2, 1 << kind, 0), 1);
            CHECK.same("ways by others", x.ways(1, 2, ~(1 << kind) & (kind == 0 ? -1 : ~1), 0), -1);
            CHECK.same("question of " + kind, Texts.fault(x, "k" + kind + "(r0a)"), -1);
            CHECK.same("its answers", x.answers(0), 2);
        }
        x.draft(0, false, 1);
        for (int wrong : new int[] {-1, 6, LEAST, MOST}) {
            CHECK.fails("ends of " + wrong, BOUNDS, () -> Steps.ends(x, wrong, 0, 0, 2));
            CHECK.fails("alone of " + wrong, BOUNDS, () -> Steps.alone(x, wrong, 0, 2));
            CHECK.fails("holds of " + wrong, BOUNDS, () -> x.holds(wrong, false));
            CHECK.fails("put of " + wrong, BOUNDS, () -> x.put(wrong, 0, 0));
            CHECK.fails("degree of " + wrong, BOUNDS, () -> x.degree(1, wrong, 0, 0));
        }
        CHECK.same("question of 6", Texts.fault(x, "k6(r0a)"), 1);
    }

    private static void days() {
        CHECK.topic("promises 8, 9, 17 to 20: days 0 to 1000");
        LineStore x = new LineStore();
        CHECK.same("from 0 to 0", Steps.put(x, 0, 0, 0, "0:1 1:2"), 0);
        CHECK.same("from 1000 to 1000", Steps.put(x, 0, 1000, 1000, "0:1 1:2"), 1);
        CHECK.same("from 0 to 1000", Steps.put(x, 1, 0, 1000, "0:1 1:2"), 2);
        x.draft(0, false, 1);
        CHECK.fails("from -1", ARGUMENT, () -> x.put(0, -1, 5));
        CHECK.fails("from the least number", ARGUMENT, () -> x.put(0, LEAST, 5));
        CHECK.fails("to 1001", ARGUMENT, () -> x.put(0, 5, 1001));
        CHECK.fails("to the greatest number", ARGUMENT, () -> x.put(0, 5, MOST));
        Texts.ask(x, "k0(r0a)");
        for (int day : new int[] {0, 1000}) {
            CHECK.same("answers on " + day, x.answers(day), 1);
            CHECK.same("degree on " + day, x.degree(1, 1, 0, day), 1);
            CHECK.same("ways on " + day, x.ways(1, 2, 1, day), 1);
        }
        for (int day : new int[] {-1, 1001, LEAST, MOST}) {
            CHECK.same("answers on " + day, x.answers(day), 0);
            CHECK.same("answer on " + day, x.answer(day, 0, 0), -1);
            CHECK.same("degree on " + day, x.degree(1, 1, 0, day), 0);
            CHECK.same("ways on " + day, x.ways(1, 2, 63, day), -1);
            CHECK.same("strike on " + day, x.strike(2, day), 0);
        }
        CHECK.same("strike on 1000", x.strike(2, 1000), 1);
        CHECK.same("strike on 0", x.strike(2, 0), 1);
    }

    private static void leastNumber() {
        CHECK.topic("promises 10, 12: those that are count as the one of them that has the least number");
        LineStore x = new LineStore();
        x.one(39, 38);
        CHECK.same("the lesser told last", x.as(39), 38);
        x.one(1, 2);
        CHECK.same("the lesser told first", x.as(2), 1);
        x.one(39, 2);
        for (int thing : new int[] {1, 2, 38, 39}) {
            CHECK.same("two groups: as of " + thing, x.as(thing), 1);
        }
        x.one(38, 0);
        for (int thing : new int[] {0, 1, 2, 38, 39}) {
            CHECK.same("with a lesser one yet: as of " + thing, x.as(thing), 0);
        }
        CHECK.same("another", x.as(3), 3);
    }

    private static void lastIsPartedFirst() {
        CHECK.topic("promise 11: What is made ONE last is parted first");
        LineStore x = new LineStore();
        x.one(10, 20);
        x.one(20, 30);
        x.one(5, 30);
        x.part();
        CHECK.same("5 is parted: as of 30", x.as(30), 10);
        CHECK.same("as of 5", x.as(5), 5);
        x.part();
        CHECK.same("30 is parted: as of 30", x.as(30), 30);
        CHECK.same("as of 20", x.as(20), 10);
        x.part();
        CHECK.same("20 is parted: as of 20", x.as(20), 20);
    }

    private static void numbersOfLines() {
        CHECK.topic("promise 8: A LINE (at most 120, numbered from 0 on)");
        LineStore x = new LineStore();
        x.ends(1, 0, 0, 0);
        for (int line = 0; line < 119; line++) {
            CHECK.same("line " + line, Steps.put(x, 0, 0, 1000, "0:1"), line);
        }
        CHECK.same("a refused one", Steps.put(x, 1, 0, 1000, "0:1"), -1);
        CHECK.same("it took no number", Steps.put(x, 0, 0, 1000, "0:1"), 119);
        x.draft(0, false, 1);
        CHECK.fails("line 120", FULL, () -> x.put(0, 0, 1000));
        CHECK.same("struck", x.strike(119, 0), 1);
        CHECK.fails("a struck one makes no room", FULL, () -> x.put(0, 0, 1000));
        CHECK.same("there are 120", x.count(0), 120);
    }

    private static void spanWithBothDays() {
        CHECK.topic("promises 8, 20: a span of days (from one to another one, both too)");
        LineStore x = new LineStore();
        Steps.put(x, 0, 5, 9, "0:1");
        Steps.put(x, 1, 7, 7, "0:1");
        int[] days = {4, 5, 6, 8, 9, 10};
        int[] due = {0, 1, 1, 1, 1, 0};
        for (int i = 0; i < days.length; i++) {
            CHECK.same("5 to 9 on " + days[i], x.degree(1, 0, 0, days[i]), due[i]);
        }
        CHECK.same("7 to 7 on 6", x.degree(1, 1, 0, 6), 0);
        CHECK.same("7 to 7 on 7", x.degree(1, 1, 0, 7), 1);
        CHECK.same("7 to 7 on 8", x.degree(1, 1, 0, 8), 0);
    }

    private static void oneToSixEnds() {
        CHECK.topic("promises 7, 8: a LINE: 1 to 6 ENDS");
        LineStore x = new LineStore();
        CHECK.fails("no ends", ARGUMENT, () -> x.put(0, 0, 9));
        CHECK.same("one end", Steps.put(x, 0, 0, 9, "0:1"), 0);
        CHECK.same("it has one", x.look(0, 3), 1);
        CHECK.same("six ends", Steps.put(x, 0, 0, 9, "0:1 0:1 1:2 2:3 3:4 5:L0"), 1);
        CHECK.same("it has six", x.look(1, 3), 6);
        Steps.draft(x, "0:1 0:1 1:2 2:3 3:4 5:L0");
        CHECK.same("a seventh thing", x.draft(4, false, 5), -1);
        CHECK.same("a seventh line", x.draft(4, true, 1), -1);
        CHECK.same("the line of the six", x.put(0, 0, 9), 2);
        CHECK.same("it has six, too", x.look(2, 3), 6);
        CHECK.same("the sixth is the one drafted then", x.ended(2, 5, 2), 0);
    }

    private static void lineOfLesserNumber() {
        CHECK.topic("promises 7, 8: an END: a ROLE and a LINE of a lesser number");
        LineStore x = new LineStore();
        CHECK.fails("line 0, ahead of it", BOUNDS, () -> x.draft(0, true, 0));
        Steps.put(x, 0, 0, 9, "0:1");
        CHECK.fails("line 1, ahead of it", BOUNDS, () -> x.draft(0, true, 1));
        for (int line = 1; line < 120; line++) {
            CHECK.same("line " + line + " on the one before", Steps.put(x, 0, 0, 9, "0:L" + (line - 1)), line);
        }
        CHECK.same("line 118 as the end of 119", x.ended(119, 0, 2), 118);
        CHECK.same("line 119", x.draft(0, true, 119), 1);
        CHECK.fails("line 120", BOUNDS, () -> x.draft(0, true, 120));
    }

    private static void inForceOnItsDays() {
        CHECK.topic("promises 17, 19: A LINE is in force on the days of its span");
        LineStore x = new LineStore();
        Steps.put(x, 0, 5, 9, "0:1 1:2");
        Texts.ask(x, "k0(r0a)");
        int[] days = {4, 5, 9, 10};
        int[] due = {0, 1, 1, 0};
        for (int i = 0; i < days.length; i++) {
            CHECK.same("answers on " + days[i], x.answers(days[i]), due[i]);
            CHECK.same("ways on " + days[i], x.ways(1, 2, 1, days[i]), due[i] == 1 ? 1 : -1);
        }
    }

    private static void lawOfEndsAtFirst() {
        CHECK.topic("promises 4, 8: the least and the most ENDS (0 and 6 at first)");
        for (int kind = 0; kind < 6; kind++) {
            LineStore x = new LineStore();
            for (int role = 0; role < 6; role++) {
                String end = role + ":1";
                CHECK.same("six in role " + role + ", none in others",
                        Steps.put(x, kind, 0, 9, end + (" " + end).repeat(5)), role);
            }
        }
    }

    private static void lawOfEndsNoneAndSix() {
        CHECK.topic("promises 4, 8: the least and the most ENDS (0 to 6) that a LINE of that KIND has in that ROLE");
        LineStore x = new LineStore();
        x.ends(0, 0, 0, 0);
        CHECK.same("most 0: none", Steps.put(x, 0, 0, 9, "1:1"), 0);
        CHECK.same("most 0: one", Steps.put(x, 0, 0, 9, "0:1 1:1"), -1);
        x.ends(0, 0, 6, 6);
        CHECK.same("least 6: six", Steps.put(x, 0, 0, 9, "0:1 0:2 0:3 0:4 0:5 0:6"), 1);
        CHECK.same("least 6: five and another", Steps.put(x, 0, 0, 9, "0:1 0:2 0:3 0:4 0:5 1:6"), -1);
        x.ends(0, 0, 2, 2);
        CHECK.same("2 to 2: one", Steps.put(x, 0, 0, 9, "0:1 1:1"), -1);
        CHECK.same("2 to 2: two", Steps.put(x, 0, 0, 9, "0:1 1:1 0:1"), 2);
        CHECK.same("2 to 2: three", Steps.put(x, 0, 0, 9, "0:1 0:1 0:1"), -1);
        CHECK.same("another role", Steps.put(x, 0, 0, 9, "0:1 0:2 1:1 1:2 1:3 1:4"), 3);
        CHECK.same("another kind", Steps.put(x, 1, 0, 9, "0:1"), 4);
    }

    private static void lawOfLinesAtOnce() {
        CHECK.topic("promises 5, 8: in how many LINES of that KIND one THING may be in that ROLE (0: any; at first)");
        LineStore x = new LineStore();
        for (int line = 0; line < 117; line++) {
            CHECK.same("any at first, line " + line, Steps.put(x, 0, 0, 9, "0:1"), line);
        }
        x.alone(0, 0, 100);
        CHECK.same("100 alone", Steps.put(x, 0, 0, 9, "0:1"), -3);
        x.alone(0, 0, 0);
        CHECK.same("any again", Steps.put(x, 0, 0, 9, "0:1"), 117);
        x.alone(0, 0, 1);
        CHECK.same("one of another thing", Steps.put(x, 0, 0, 9, "0:2"), 118);
        CHECK.same("a second one of it", Steps.put(x, 0, 0, 9, "0:2"), -3);
        CHECK.same("of another kind", Steps.put(x, 1, 0, 9, "0:2"), 119);
    }

    private static void lawOfHoldingAtFirst() {
        CHECK.topic("promises 6, 9: whether what hangs on a LINE of it HOLDS it (at first), or ENDS with it");
        LineStore x = new LineStore();
        for (int kind = 0; kind < 6; kind++) {
            int line = Steps.put(x, kind, 0, 9, "0:1");
            Steps.put(x, kind, 0, 9, "0:L" + line);
            CHECK.same("kind " + kind + " at first", x.strike(line, 5), 0);
            x.holds(kind, false);
            CHECK.same("kind " + kind + " ends", x.strike(line, 5), 2);
            x.holds(kind, true);
            CHECK.same("kind " + kind + " holds again", x.strike(line, 4), 0);
        }
    }

    private static void lawOfEndsFromThenOn() {
        CHECK.topic("promises 4, 8: A LAW counts for what is put from then on");
        LineStore x = new LineStore();
        Steps.put(x, 0, 0, 9, "0:1 0:2");
        Steps.draft(x, "0:1 0:2");
        x.ends(0, 0, 0, 1);
        CHECK.same("drafted before, put then", x.put(0, 0, 9), -1);
        CHECK.same("put before: its last day", x.look(0, 2), 9);
        CHECK.same("put before: its ends", x.look(0, 3), 2);
        CHECK.same("put before: in force", x.degree(2, 0, 0, 9), 1);
        x.ends(0, 0, 0, 6);
        CHECK.same("by the law after it", Steps.put(x, 0, 0, 9, "0:1 0:2"), 1);
    }

    private static void lawOfLinesAtOnceFromThenOn() {
        CHECK.topic("promises 5, 8: A LAW counts for what is put from then on");
        LineStore x = new LineStore();
        for (int line = 0; line < 3; line++) {
            Steps.put(x, 0, 0, 9, "0:1");
        }
        Steps.draft(x, "0:1");
        x.alone(0, 0, 2);
        CHECK.same("drafted before, put then", x.put(0, 9, 9), -3);
        CHECK.same("put before: all in force", x.degree(1, 0, 0, 9), 3);
        CHECK.same("on other days", Steps.put(x, 0, 10, 12, "0:1"), 3);
        CHECK.same("a second one", Steps.put(x, 0, 10, 12, "0:1"), 4);
        CHECK.same("a third one", Steps.put(x, 0, 10, 12, "0:1"), -3);
    }

    private static void fewerOrMoreEnds() {
        CHECK.topic("promise 8: refused, if 1 for some ROLE (by numbers) it has fewer or more ENDS than its KIND may");
        LineStore x = new LineStore();
        int lines = 0;
        for (int role = 0; role < 6; role++) {
            String end = role + ":1";
            x.ends(role, role, 2, 3);
            CHECK.same("fewer in role " + role, Steps.put(x, role, 0, 9, end), -1);
            CHECK.same("the least in role " + role, Steps.put(x, role, 0, 9, end + " " + end), lines);
            CHECK.same("the most, one a line, in role " + role,
                    Steps.put(x, role, 0, 9, end + " " + end + " " + role + ":L0"), lines + 1);
            CHECK.same("more, one a line, in role " + role,
                    Steps.put(x, role, 0, 9, end + " " + end + " " + end + " " + role + ":L0"), -1);
            lines += 2;
        }
    }

    private static void noneOfARoleThatMustBe() {
        CHECK.topic("promise 8: refused, if 1 for some ROLE it has fewer ENDS, none of them too");
        for (int role = 0; role < 6; role++) {
            LineStore x = new LineStore();
            x.ends(0, role, 1, 6);
            int other = role == 0 ? 5 : role - 1;
            CHECK.same("none in role " + role, Steps.put(x, 0, 0, 9, other + ":1"), -1);
            CHECK.same("one in role " + role, Steps.put(x, 0, 0, 9, other + ":1 " + role + ":1"), 0);
        }
    }

    private static void endNotInForce() {
        CHECK.topic("promise 8: refused, if 2 an END is a LINE that is not in force on all days of its span");
        LineStore x = new LineStore();
        Steps.put(x, 0, 5, 9, "0:1");
        CHECK.same("a day ahead", Steps.put(x, 0, 4, 9, "0:L0"), -2);
        CHECK.same("a day behind", Steps.put(x, 0, 5, 10, "0:L0"), -2);
        CHECK.same("ahead of all", Steps.put(x, 0, 4, 4, "0:L0"), -2);
        CHECK.same("behind all", Steps.put(x, 0, 10, 10, "0:L0"), -2);
        CHECK.same("all its days", Steps.put(x, 0, 5, 9, "0:L0"), 1);
        CHECK.same("its first day", Steps.put(x, 0, 5, 5, "0:L0"), 2);
        CHECK.same("its last day", Steps.put(x, 0, 9, 9, "0:L0"), 3);
        CHECK.same("on the last end", Steps.put(x, 0, 4, 4, "0:1 0:1 0:1 0:1 0:1 0:L0"), -2);
        Steps.put(x, 0, 0, 6, "0:1");
        CHECK.same("one of two, days ahead", Steps.put(x, 0, 4, 6, "0:L4 0:L0"), -2);
        CHECK.same("one of two, days behind", Steps.put(x, 0, 5, 7, "0:L4 0:L0"), -2);
        CHECK.same("days of both", Steps.put(x, 0, 5, 6, "0:L4 0:L0"), 5);
        Steps.put(x, 0, 5, 9, "0:1");
        x.strike(6, 7);
        CHECK.same("the day it was struck", Steps.put(x, 0, 5, 7, "0:L6"), -2);
        CHECK.same("the day before", Steps.put(x, 0, 5, 6, "0:L6"), 7);
        Steps.put(x, 0, 5, 9, "0:1");
        x.strike(8, 5);
        CHECK.same("never, on its first day", Steps.put(x, 0, 5, 5, "0:L8"), -2);
        CHECK.same("never, on the day before", Steps.put(x, 0, 4, 4, "0:L8"), -2);
    }

    private static void tooManyOnSomeDay() {
        CHECK.topic("promise 8: refused, if 3 on some day of its span some THING of it would be in more LINES");
        LineStore x = new LineStore();
        x.alone(0, 0, 1);
        Steps.put(x, 0, 10, 20, "0:1");
        CHECK.same("its last day the first", Steps.put(x, 0, 0, 10, "0:1"), -3);
        CHECK.same("its first day the last", Steps.put(x, 0, 20, 30, "0:1"), -3);
        CHECK.same("around", Steps.put(x, 0, 0, 30, "0:1"), -3);
        CHECK.same("within", Steps.put(x, 0, 15, 15, "0:1"), -3);
        CHECK.same("up to the day before", Steps.put(x, 0, 0, 9, "0:1"), 1);
        CHECK.same("from the day behind on", Steps.put(x, 0, 21, 30, "0:1"), 2);
        x.alone(0, 0, 2);
        CHECK.same("three, but never more than two at once", Steps.put(x, 0, 0, 30, "0:1"), 3);
        x.alone(0, 0, 3);
        CHECK.same("three on all days", Steps.put(x, 0, 0, 30, "0:1"), 4);
        CHECK.same("more than three on the last day", Steps.put(x, 0, 30, 40, "0:1"), -3);
        CHECK.same("the sixth end's thing", Steps.put(x, 0, 30, 40, "0:2 0:3 0:4 0:5 0:6 0:1"), -3);
        CHECK.same("from then on", Steps.put(x, 0, 31, 40, "0:2 0:3 0:4 0:5 0:6 0:1"), 5);
        Steps.put(x, 1, 5, 9, "0:1");
        x.alone(1, 0, 1);
        x.strike(6, 7);
        CHECK.same("on the day before it was struck", Steps.put(x, 1, 6, 9, "0:1"), -3);
        CHECK.same("on the day it was struck", Steps.put(x, 1, 7, 9, "0:1"), 7);
    }

    private static void tooManyInThatRoleAlone() {
        CHECK.topic("promise 8: refused, if 3 it would be, in one of its ROLES, in more LINES of its KIND than may be");
        LineStore x = new LineStore();
        x.alone(0, 0, 1);
        x.alone(0, 1, 2);
        Steps.put(x, 0, 0, 9, "0:1 1:2");
        CHECK.same("the thing of the other role", Steps.put(x, 0, 0, 9, "0:2 1:1"), 1);
        CHECK.same("role 0 is full", Steps.put(x, 0, 0, 9, "0:1 1:3"), -3);
        CHECK.same("role 1 is not", Steps.put(x, 0, 0, 9, "0:3 1:1"), 2);
        CHECK.same("role 1 is full, too", Steps.put(x, 0, 0, 9, "0:4 1:1"), -3);
        CHECK.same("a role without a law", Steps.put(x, 0, 0, 9, "2:1"), 3);
        CHECK.same("another kind", Steps.put(x, 1, 0, 9, "0:1 1:1"), 4);
        CHECK.same("the line of the number is no thing", Steps.put(x, 0, 0, 9, "0:L1 1:L1"), 5);
    }

    private static void itselfToo() {
        CHECK.topic("promise 8: in more LINES of its KIND than may be (itself too)");
        LineStore x = new LineStore();
        x.alone(0, 0, 1);
        CHECK.same("itself alone, of one", Steps.put(x, 0, 0, 9, "0:1"), 0);
        CHECK.same("itself and another, of one", Steps.put(x, 0, 0, 9, "0:1"), -3);
        x.alone(0, 0, 2);
        CHECK.same("itself and another, of two", Steps.put(x, 0, 0, 9, "0:1"), 1);
        CHECK.same("itself and two others, of two", Steps.put(x, 0, 0, 9, "0:1"), -3);
    }

    private static void onceALine() {
        CHECK.topic("promise 8: in more LINES of its KIND than may be (counted once a LINE)");
        LineStore x = new LineStore();
        x.alone(0, 0, 1);
        CHECK.same("twice in itself", Steps.put(x, 0, 0, 9, "0:1 0:1"), 0);
        x.alone(0, 0, 2);
        CHECK.same("twice in another", Steps.put(x, 0, 0, 9, "0:1"), 1);
        x.one(2, 3);
        x.alone(0, 0, 1);
        CHECK.same("two of itself that are one", Steps.put(x, 0, 0, 9, "0:2 0:3"), 2);
        x.alone(0, 0, 2);
        CHECK.same("two of another that are one", Steps.put(x, 0, 0, 9, "0:3"), 3);
    }

    private static void byWhatIsOneNow() {
        CHECK.topic("promise 8: in more LINES of its KIND than may be (by what is ONE now)");
        LineStore x = new LineStore();
        x.alone(0, 0, 1);
        Steps.put(x, 0, 0, 9, "0:1");
        CHECK.same("not one", Steps.put(x, 0, 0, 4, "0:2"), 1);
        x.one(2, 1);
        CHECK.same("made one behind the other line", Steps.put(x, 0, 5, 9, "0:2"), -3);
        x.part();
        CHECK.same("parted", Steps.put(x, 0, 5, 9, "0:2"), 2);
        Steps.draft(x, "0:3");
        x.one(3, 1);
        CHECK.same("made one behind the draft", x.put(0, 9, 9), -3);
        Steps.draft(x, "0:3");
        x.part();
        CHECK.same("parted behind the draft", x.put(0, 9, 9), 3);
        Steps.put(x, 0, 0, 9, "0:30");
        x.one(20, 30);
        CHECK.same("the lesser one, where the other line has the greater", Steps.put(x, 0, 0, 9, "0:20"), -3);
        CHECK.same("the greater one itself", Steps.put(x, 0, 0, 9, "0:30"), -3);
        x.one(20, 10);
        CHECK.same("a lesser one yet", Steps.put(x, 0, 0, 9, "0:10"), -3);
    }

    private static void firstRefusalCounts() {
        CHECK.topic("promise 8: The first of these counts");
        LineStore x = new LineStore();
        Steps.put(x, 0, 5, 9, "0:1");
        x.alone(0, 0, 1);
        x.ends(0, 1, 0, 1);
        CHECK.same("1, 2 and 3", Steps.put(x, 0, 4, 9, "0:1 1:L0 1:2"), -1);
        CHECK.same("1 and 3", Steps.put(x, 0, 5, 9, "0:1 1:L0 1:2"), -1);
        CHECK.same("1 and 2", Steps.put(x, 0, 4, 9, "0:2 1:L0 1:2"), -1);
        CHECK.same("2 and 3", Steps.put(x, 0, 4, 9, "0:1 1:L0"), -2);
        CHECK.same("3, its end ahead of a line", Steps.put(x, 0, 5, 9, "0:1 1:L0"), -3);
        CHECK.same("none", Steps.put(x, 0, 5, 9, "0:2 1:L0"), 1);
    }

    private static void upToTheDayBefore() {
        CHECK.topic("promise 9: TO STRIKE a LINE on a day of its span: it is in force up to the day before");
        LineStore x = new LineStore();
        Steps.put(x, 0, 5, 9, "0:1");
        CHECK.same("on the day ahead of its span", x.strike(0, 4), 0);
        CHECK.same("on the day behind its span", x.strike(0, 10), 0);
        CHECK.same("on its last day", x.strike(0, 9), 1);
        CHECK.same("up to 8", x.look(0, 2), 8);
        CHECK.same("in force on 8", x.degree(1, 0, 0, 8), 1);
        CHECK.same("not on 9", x.degree(1, 0, 0, 9), 0);
        CHECK.same("9 is not of its span then", x.strike(0, 9), 0);
        CHECK.same("on the day behind its first", x.strike(0, 6), 1);
        CHECK.same("up to 5", x.look(0, 2), 5);
        CHECK.same("in force on 5", x.degree(1, 0, 0, 5), 1);
    }

    private static void neverInForce() {
        CHECK.topic("promises 9, 13: in force up to the day before (never, if that is before its first day)");
        LineStore x = new LineStore();
        Steps.put(x, 0, 5, 9, "0:1");
        Steps.put(x, 0, 0, 9, "0:2");
        CHECK.same("on its first day", x.strike(0, 5), 1);
        CHECK.same("on day 0", x.strike(1, 0), 1);
        CHECK.same("the last day is 4", x.look(0, 2), 4);
        CHECK.same("the last day is -1", x.look(1, 2), -1);
        for (int day = 4; day <= 9; day++) {
            CHECK.same("in force on " + day, x.degree(1, 0, 0, day), 0);
            CHECK.same("struck again on " + day, x.strike(0, day), 0);
        }
        CHECK.same("in force on 0", x.degree(2, 0, 0, 0), 0);
        CHECK.same("in force on -1", x.degree(2, 0, 0, -1), 0);
        CHECK.same("struck on -1", x.strike(1, -1), 0);
    }

    private static void heldOnThatDayOrLater() {
        CHECK.topic("promise 9: If a LINE hangs on it that is in force on that day or later: HOLDS: nothing is struck");
        LineStore x = new LineStore();
        Steps.put(x, 0, 0, 20, "0:1");
        Steps.put(x, 1, 8, 12, "0:1 0:L0");
        CHECK.same("ahead of its days", x.strike(0, 3), 0);
        CHECK.same("the day before its first", x.strike(0, 7), 0);
        CHECK.same("its first day", x.strike(0, 8), 0);
        CHECK.same("its last day", x.strike(0, 12), 0);
        CHECK.same("nothing is struck", x.look(0, 2), 20);
        CHECK.same("nor what hangs", x.look(1, 2), 12);
        CHECK.same("the day behind its last", x.strike(0, 13), 1);
        CHECK.same("what hangs is as it was", x.look(1, 2), 12);
        x.strike(1, 10);
        CHECK.same("the day before it was struck", x.strike(0, 9), 0);
        CHECK.same("the day it was struck", x.strike(0, 10), 1);
        x.strike(1, 8);
        CHECK.same("never in force, ahead of its days", x.strike(0, 3), 1);
    }

    private static void struckOnThatDay() {
        CHECK.topic("promise 9: ENDS: that LINE is struck on that day, too");
        LineStore x = new LineStore();
        x.holds(0, false);
        Steps.put(x, 0, 0, 20, "0:1");
        Steps.put(x, 1, 5, 10, "0:L0 1:L0");
        CHECK.same("two on its last day", x.strike(0, 10), 2);
        CHECK.same("the line", x.look(0, 2), 9);
        CHECK.same("what hangs, with two ends", x.look(1, 2), 9);
        CHECK.same("two on its first day", x.strike(0, 5), 2);
        CHECK.same("the line then", x.look(0, 2), 4);
        CHECK.same("what hangs is never in force", x.look(1, 2), 4);
        CHECK.same("and struck no more", x.strike(0, 4), 1);
        CHECK.same("it stays so", x.look(1, 2), 4);
    }

    private static void struckOnItsOwnFirstDay() {
        CHECK.topic("promise 9: that LINE is struck (or on its own first day, if that is later)");
        LineStore x = new LineStore();
        x.holds(0, false);
        x.holds(1, false);
        Steps.put(x, 0, 0, 20, "0:1");
        Steps.put(x, 1, 5, 10, "0:L0");
        Steps.put(x, 2, 7, 9, "0:L1");
        CHECK.same("three on day 4", x.strike(0, 4), 3);
        CHECK.same("the line", x.look(0, 2), 3);
        CHECK.same("what hangs, on day 5", x.look(1, 2), 4);
        CHECK.same("what hangs on it, on day 7", x.look(2, 2), 6);
        CHECK.same("its first day stays", x.look(2, 1), 7);
    }

    private static void overBeforeThatDay() {
        CHECK.topic("promise 9: ENDS: a LINE that hangs on it and is in force on that day or later, no other");
        LineStore x = new LineStore();
        x.holds(0, false);
        Steps.put(x, 0, 0, 20, "0:1");
        Steps.put(x, 1, 5, 10, "0:L0");
        Steps.put(x, 2, 5, 10, "0:L1");
        CHECK.same("one on the day behind its last", x.strike(0, 11), 1);
        CHECK.same("what hangs is as it was", x.look(1, 2), 10);
        CHECK.same("on a day of it, held by what hangs on it", x.strike(0, 10), 0);
        CHECK.same("the last one is struck", x.strike(2, 7), 1);
        CHECK.same("what hangs is held no more behind that", x.strike(0, 7), 2);
        CHECK.same("the last one is as it was", x.look(2, 2), 6);
    }

    private static void byItsOwnKind() {
        CHECK.topic("promise 9: and what hangs on it, by its own KIND, again");
        LineStore x = new LineStore();
        Steps.put(x, 0, 0, 20, "0:1");
        Steps.put(x, 1, 0, 20, "0:L0");
        Steps.put(x, 2, 0, 20, "0:L1");
        x.holds(0, false);
        CHECK.same("kind 1 holds", x.strike(0, 10), 0);
        x.holds(0, true);
        x.holds(1, false);
        CHECK.same("kind 0 holds", x.strike(0, 10), 0);
        CHECK.same("kind 1 ends", x.strike(1, 15), 2);
        x.holds(0, false);
        CHECK.same("both end, and nothing hangs on kind 2", x.strike(0, 10), 3);
        for (int line = 0; line < 3; line++) {
            CHECK.same("line " + line, x.look(line, 2), 9);
        }
    }

    private static void nothingAtAll() {
        CHECK.topic("promise 9: if any of all these HOLDS, nothing at all is struck");
        LineStore x = new LineStore();
        for (int kind = 0; kind < 3; kind++) {
            x.holds(kind, false);
        }
        Steps.put(x, 0, 0, 20, "0:1");
        Steps.put(x, 1, 0, 20, "0:L0");
        Steps.put(x, 2, 0, 20, "0:L1");
        Steps.put(x, 3, 0, 20, "0:L0");
        Steps.put(x, 1, 20, 20, "0:L3");
        CHECK.same("the last but one is held", x.strike(0, 10), 0);
        for (int line = 0; line < 5; line++) {
            CHECK.same("line " + line + " is as it was", x.look(line, 2), 20);
        }
        CHECK.same("a branch without it", x.strike(1, 10), 2);
        CHECK.same("the others are as they were", x.look(0, 2) + x.look(3, 2) + x.look(4, 2), 60);
        x.holds(3, false);
        CHECK.same("nothing holds", x.strike(0, 10), 3);
    }

    private static void keepsItsNumber() {
        CHECK.topic("promises 8, 9, 13, 14: A LINE that was struck keeps its number");
        LineStore x = new LineStore();
        Steps.put(x, 0, 5, 9, "0:1");
        Steps.put(x, 4, 5, 9, "3:2 2:L0");
        x.strike(1, 5);
        x.strike(0, 5);
        CHECK.same("there are two", x.count(0), 2);
        CHECK.same("the next is 2", Steps.put(x, 0, 5, 9, "0:1"), 2);
        CHECK.same("the kind of 1", x.look(1, 0), 4);
        CHECK.same("the ends of 1", x.look(1, 3), 2);
        CHECK.same("the thing of 1", x.ended(1, 0, 1), 2);
        CHECK.same("the line of 1", x.ended(1, 1, 2), 0);
        CHECK.same("what hangs on 0", x.look(0, 4), 1);
        CHECK.same("0 may be drafted", x.draft(0, true, 0), 1);
    }
}
