/** The edges that the document names of the TAPE and of a QUESTION's text: a test for each sentence. */
public final class TextEdgeTest {
    private static final Checker CHECK = new Checker();
    private static final Class<IllegalArgumentException> ARGUMENT = IllegalArgumentException.class;
    private static final String SIX_ATOMS = "k0(r0a)" + ",k0(r0a)".repeat(5);
    private static final String FOUR_PARTS = "k0(r0a,r1b,r2c,r3t4";

    private TextEdgeTest() {
    }

    public static void main(String[] args) {
        CHECK.runAll(TextEdgeTest::highestFirst, TextEdgeTest::behindTheTape, TextEdgeTest::moreThan400,
                TextEdgeTest::firstBytesAlone, TextEdgeTest::fewerOrBelowNone, TextEdgeTest::oneAtomOrMore,
                TextEdgeTest::notOnce, TextEdgeTest::onePartOrMore, TextEdgeTest::terms, TextEdgeTest::sixAtoms,
                TextEdgeTest::fourParts, TextEdgeTest::oneOrTwoDigits, TextEdgeTest::numbersOfTheirOwnBounds,
                TextEdgeTest::wordsAsLongAsLetters, TextEdgeTest::blanksBetweenAll,
                TextEdgeTest::blanksAloneAreBlanks, TextEdgeTest::beginOfTheFirst, TextEdgeTest::eachThingAtEachPlace,
                TextEdgeTest::numberOfMoreDigits, TextEdgeTest::numberOutOfBounds, TextEdgeTest::wordThatIsNone,
                TextEdgeTest::wordBehindAnotherText, TextEdgeTest::variableBehindNot, TextEdgeTest::variableAheadOfIt,
                TextEdgeTest::commaAheadOfSeventh, TextEdgeTest::commaAheadOfFifth, TextEdgeTest::textsLength,
                TextEdgeTest::usesTheTapeUp, TextEdgeTest::standsUntilTheNext, TextEdgeTest::howManyAtoms,
                TextEdgeTest::oneBeforeStands, TextEdgeTest::faultOfTheLatest, TextEdgeTest::faultAheadOfAny);
        CHECK.finish();
    }

    /** Texts, each behind the first wrong byte that is due of it, NONE of a right one. */
    private static void faults(Object... duesAndTexts) {
        LineStore x = new LineStore();
        for (int i = 0; i + 1 < duesAndTexts.length; i += 2) {
            String text = (String) duesAndTexts[i + 1];
            CHECK.same("fault of '" + text + "'", Texts.fault(x, text), duesAndTexts[i]);
        }
    }

    private static void highestFirst() {
        CHECK.topic("promise 2: Twenty bytes, of each number the highest first");
        LineStore x = new LineStore();
        x.feed(0x6b302872, 0x30612c72, 0x31622c72, 0x3263292c, 0x6b312872);
        x.feed(0x35743339, 0x29202020, 0x20202020, 0x20202020, 0x20202020);
        CHECK.same("k0(r0a,r1b,r2c),k1(r5t39)", x.question(), 2);
        CHECK.same("its variables", x.count(5), 3);
        for (int at = 0; at < 20; at++) {
            int[] numbers = {0x20202020, 0x20202020, 0x20202020, 0x20202020, 0x20202020};
            // A byte of 255, so that a number below 0 is read, too.
            numbers[at / 4] |= 0xff << (24 - 8 * (at % 4));
            x.feed(numbers[0], numbers[1], numbers[2], numbers[3], numbers[4]);
            CHECK.fails("byte " + at + " is 255", ARGUMENT, () -> x.question());
            CHECK.same("it is the first wrong one", x.fault(), at);
        }
    }

    private static void behindTheTape() {
        CHECK.topic("promise 2: bytes come behind the TAPE: how many it has");
        LineStore x = new LineStore();
        CHECK.same("twenty", x.feed(0x6b302872, 0x30612920, 0, 0, 0), 20);
        x.end(7);
        CHECK.same("behind seven", x.feed(0x2c6b3128, 0x72306229, 0, 0, 0), 27);
        x.end(15);
        CHECK.same("k0(r0a),k1(r0b)", x.question(), 2);
        CHECK.same("twenty, when it was used up", x.feed(0, 0, 0, 0, 0), 20);
    }

    private static void moreThan400() {
        CHECK.topic("promise 2: NONE, and none come, if it would have more than 400");
        LineStore x = new LineStore();
        for (int bytes = 20; bytes <= 400; bytes += 20) {
            CHECK.same("feed to " + bytes, x.feed(0x20202020, 0x20202020, 0x20202020, 0x20202020, 0x20202020), bytes);
        }
        CHECK.same("feed to 420", x.feed(0, 0, 0, 0, 0), -1);
        CHECK.same("401 are not there", x.end(401), false);
        CHECK.same("400 are", x.end(400), true);
        CHECK.same("381 stay", x.end(381), true);
        CHECK.same("feed to 401", x.feed(0, 0, 0, 0, 0), -1);
        CHECK.same("not one of them came", x.end(382), false);
        CHECK.fails("381 blanks", ARGUMENT, () -> x.question());
        CHECK.same("all of them were blanks", x.fault(), 381);
        Texts.feed(x, " ".repeat(380));
        CHECK.same("feed to 400, at last", x.feed(0x6b302872, 0x30612920, 0x20202020, 0x20202020, 0x20202020), 400);
        CHECK.same("its last twenty came", x.question(), 1);
    }

    private static void firstBytesAlone() {
        CHECK.topic("promise 3: The TAPE has its first n bytes alone: true");
        LineStore x = new LineStore();
        CHECK.same("none of none", x.end(0), true);
        Texts.feed(x, "k0(r0a),k1(r0b)x");
        CHECK.same("15", x.end(15), true);
        CHECK.same("15 again", x.end(15), true);
        CHECK.same("7", x.end(7), true);
        CHECK.same("the first seven", x.question(), 1);
        Texts.feed(x, "k0(r0a)");
        CHECK.same("none of seven", x.end(0), true);
        CHECK.same("feed behind none", x.feed(0, 0, 0, 0, 0), 20);
    }

    private static void fewerOrBelowNone() {
        CHECK.topic("promise 3: false, and nothing happens, if it has fewer, or n is below 0");
        LineStore x = new LineStore();
        CHECK.same("one of none", x.end(1), false);
        Texts.feed(x, "k0(r0a)");
        for (int n : new int[] {8, 20, Integer.MAX_VALUE, -1, Integer.MIN_VALUE}) {
            CHECK.same("end(" + n + ") of seven", x.end(n), false);
        }
        CHECK.same("the seven are there", x.end(7), true);
        CHECK.same("and right", x.question(), 1);
    }

    private static void oneAtomOrMore() {
        CHECK.topic("promises 15, 16: A QUESTION: a text: ATOM { , ATOM }");
        faults(0, "", -1, "k0(r0a)", -1, "k0(r0a),k0(r0a)", 0, ",k0(r0a)", 8, "k0(r0a),", 8, "k0(r0a),,k0(r0a)",
                7, "k0(r0a)k0(r0a)", 7, "k0(r0a)not k0(r0a)", 7, "k0(r0a))", 7, "k0(r0a);k0(r0a)",
                7, "k0(r0a)0", 7, "k0(r0a)a", 7, "k0(r0a)xx");
    }

    private static void notOnce() {
        CHECK.topic("promises 15, 16: ATOM: [ not ] k NUMBER ( PART { , PART } )");
        faults(-1, "not k0(r0t0)", 4, "not not k0(r0t0)", 3, "not", 4, "not ,k0(r0a)", 3, "not(r0t0)", 3, "k0 not(r0a)",
                2, "k0", 2, "k0r0a)", 2, "k0)", 1, "k(r0a)", 1, "k,", 0, "0(r0a)", 0, "r0(r0a)", 0, "a", 0, "t0");
    }

    private static void onePartOrMore() {
        CHECK.topic("promises 15, 16: ( PART { , PART } ), PART: r NUMBER TERM");
        faults(3, "k0()", 3, "k0(,r0a)", 7, "k0(r0a,)", 7, "k0(r0a,,r0a)", -1, "k0(r0a,r0a)", 5, "k0(r0ar0a)",
                7, "k0(r0a r0a)", 3, "k0(k0a)", 3, "k0(a)", 3, "k0(t0)", 3, "k0(not", 4, "k0(r)", 4, "k0(r(",
                5, "k0(r0)", 5, "k0(r0,", 6, "k0(r0a(", 6, "k0(r0a", 5, "k0(r0(a))", 3, "k0((r0a))");
    }

    private static void terms() {
        CHECK.topic("promises 15, 16: TERM: a, b, c (VARIABLES), or t NUMBER (a THING)");
        faults(-1, "k0(r0a)", -1, "k0(r0b)", -1, "k0(r0c)", 5, "k0(r0d)", 5, "k0(r0`)", 5, "k0(r0A)", 5, "k0(r0k)",
                5, "k0(r0r)", 5, "k0(r0z)", 5, "k0(r0not)", -1, "k0(r0t0)", 6, "k0(r0t)", 6, "k0(r0t,", 6, "k0(r0a0)",
                6, "k0(r0 0)", 7, "k0(r0t a)", 5, "k0(r0ta)");
    }

    private static void sixAtoms() {
        CHECK.topic("promise 15: At most 6 ATOMS");
        LineStore x = new LineStore();
        CHECK.same("six", Texts.ask(x, SIX_ATOMS), 6);
        Texts.feed(x, SIX_ATOMS + ",k0(r0a)");
        CHECK.fails("seven", ARGUMENT, () -> x.question());
        Texts.feed(x, SIX_ATOMS + ",not k0(r0a)");
        CHECK.fails("seven, the last with not", ARGUMENT, () -> x.question());
        CHECK.same("six of 24 parts", Texts.ask(x, FOUR_PARTS + ")" + ("," + FOUR_PARTS + ")").repeat(5)), 6);
    }

    private static void fourParts() {
        CHECK.topic("promise 15: each with at most 4 PARTS");
        LineStore x = new LineStore();
        CHECK.same("four", Texts.ask(x, FOUR_PARTS + ")"), 1);
        Texts.feed(x, FOUR_PARTS + ",r0a)");
        CHECK.fails("five", ARGUMENT, () -> x.question());
        CHECK.same("four, and four of the next", Texts.ask(x, FOUR_PARTS + "),not " + FOUR_PARTS + ")"), 2);
        Texts.feed(x, "k0(r0a)," + FOUR_PARTS + ",r0a)");
        CHECK.fails("one, and five of the next", ARGUMENT, () -> x.question());
    }

    private static void oneOrTwoDigits() {
        CHECK.topic("promises 15, 16: NUMBERS of 1 or 2 digits");
        faults(-1, "k5(r5t9)", -1, "k05(r05t09)", -1, "k00(r00t00)", 1, "k005(r0a)", 4, "k0(r005a)", 6, "k0(r0t009)",
                3, "k0 0(r0a)", 8, "k0(r0t3 9)");
    }

    private static void numbersOfTheirOwnBounds() {
        CHECK.topic("promises 15, 17: NUMBERS: of a KIND, a ROLE, a THING");
        LineStore x = new LineStore();
        Steps.put(x, 5, 0, 9, "4:39 3:1");
        CHECK.same("k05(r04t39,r3t01)", Texts.ask(x, "k05(r04t39,r3t01)"), 1);
        CHECK.same("the line fits", x.answers(0), 1);
        CHECK.same("k5(r4t38)", Texts.ask(x, "k5(r4t38)"), 1);
        CHECK.same("another thing", x.answers(0), 0);
        CHECK.same("k4(r4t39)", Texts.ask(x, "k4(r4t39)"), 1);
        CHECK.same("another kind", x.answers(0), 0);
        CHECK.same("k5(r5t39)", Texts.ask(x, "k5(r5t39)"), 1);
        CHECK.same("another role", x.answers(0), 0);
    }

    private static void wordsAsLongAsLetters() {
        CHECK.topic("promises 15, 16: Words are as long as letters a to z go on");
        faults(0, "notk0(r0t0)", 0, "kr", 0, "nota", 3, "k0(rr0a)", 3, "k0(ra)", 5, "k0(r0ab)", 5, "k0(r0az)",
                5, "k0(r0tt0)", 0, "k" + "z".repeat(399), 6, "k0(r0aB)", 6, "k0(r0a`)", 6, "k0(r0a{)", 3, "notK0(r0t0)",
                3, "not0", -1, "not k0(r0t0)", 0, "no t k0(r0t0)", 2, "k k0");
    }

    private static void blanksBetweenAll() {
        CHECK.topic("promises 15, 16: between all there may be blanks (32), also ahead and behind");
        faults(-1, "  k  0  (  r  0  a  ,  r  1  t  39  )  ,  not  k  1  (  r  2  a  )  ",
                -1, "k0(r0a,r1t39),not k1(r2a)", -1, " ".repeat(393) + "k0(r0a)", -1, "k0(r0a)" + " ".repeat(393),
                0, "n ot k0(r0t0)", 9, "k0(r0 t3 9)");
    }

    private static void blanksAloneAreBlanks() {
        CHECK.topic("promises 15, 16: blanks (32), and no other byte");
        for (int sign = 0; sign < 256; sign++) {
            if ("abcdefghijklmnopqrstuvwxyz0123456789(), ".indexOf(sign) >= 0) {
                continue;
            }
            String text = String.valueOf((char) sign);
            faults(0, text + "k0(r0a)", 1, "k" + text + "0(r0a)", 2, "k0" + text + "(r0a)", 3, "k0(" + text + "r0a)",
                    4, "k0(r" + text + "0a)", 5, "k0(r0" + text + "a)", 6, "k0(r0a" + text + ")",
                    7, "k0(r0a)" + text, 6, "k0(r0t" + text + "1)", 3, "not" + text + "k0(r0t0)");
        }
    }

    private static void beginOfTheFirst() {
        CHECK.topic("promise 16: The first wrong byte: the begin of the first thing that cannot stand there");
        faults(2, "  xyz", 3, "k  77", 7, "k0(r0  abc)", 9, "k0(r0a)  x", 1, "k9(r9d)", 4, "k0(r9d)", 5, "k0(r0d),k9",
                9, "k0(r0a),k9(r9", 9, "k0(r0a), !k9");
    }

    private static void eachThingAtEachPlace() {
        CHECK.topic("promise 16: the first thing that cannot stand there, of all things at all places");
        String[] all = {"not", "k", "r", "t", "a", "b", "c", "d", "xyz", "K", "0", "5", "6", "39", "40", "000",
            "(", ")", ",", ".", "-", "\0", "\u00ff"};
        String[][] placesAndFits = {
            {"", "not k"}, {"not", "k"}, {"k", "0 5"}, {"not k", "0 5"}, {"k0", "("}, {"not k5", "("}, {"k0(", "r"},
            {"k0(r", "0 5"}, {"k0(r0", "a b c t"}, {"not k0(r0", "t"}, {"k0(r0t", "0 5 6 39"}, {"k0(r0a", ", )"},
            {"k0(r0t39", ", )"}, {"k0(r0a,", "r"}, {"k0(r0a,r5", "a b c t"}, {"k0(r0a)", ","}, {"k0(r0a),", "not k"},
            {"k0(r0a),not", "k"}, {"k0(r0a),not k0(r0", "a t"}, {"k0(r0c),not k0(r0", "c t"},
            {FOUR_PARTS, ")"}, {SIX_ATOMS, ""}, {"k0(r0b),not k0(r0b)", ","}};
        for (String[] placeAndFits : placesAndFits) {
            LineStore x = new LineStore();
            for (String thing : all) {
                String text = placeAndFits[0] + " " + thing;
                boolean fits = (" " + placeAndFits[1] + " ").contains(" " + thing + " ");
                // What fits needs more behind it, but for the ) that closes an ATOM.
                int due = !fits ? placeAndFits[0].length() + 1 : thing.equals(")") ? -1 : text.length();
                CHECK.same("fault of '" + text + "'", Texts.fault(x, text), due);
            }
        }
    }

    private static void numberOfMoreDigits() {
        CHECK.topic("promise 16: the first wrong byte: a NUMBER of more digits");
        faults(1, "k000(r0a)", 1, "k000", 4, "k0(r000a)", 5, "k0(r 000a)", 6, "k0(r0t000)",
                7, "k0(r0t 0001)", 1, "k" + "0".repeat(399), 6, "k0(r0t4294967296)", 6, "k0(r0t18446744073709551616)");
    }

    private static void numberOutOfBounds() {
        CHECK.topic("promise 16: the first wrong byte: a NUMBER out of its bounds");
        faults(-1, "k5(r0a)", 1, "k6(r0a)", 1, "k06(r0a)", 1, "k10(r0a)", 1, "k99(r0a)", -1, "k0(r5a)", 4, "k0(r6a)",
                4, "k0(r06a)", 4, "k0(r10a)", 4, "k0(r39a)", -1, "k0(r0t39)", 6, "k0(r0t40)", 7, "k0(r0t 99)", 2, "k 6",
                1, "k-1(r0a)", 6, "k0(r0t-1)");
    }

    private static void wordThatIsNone() {
        CHECK.topic("promise 16: the first wrong byte: a word that is none");
        faults(0, "n", 0, "no", 0, "nott", 0, "nt k0", 0, "knot", 0, "no k0", 0, "and", 0, "x0", 3, "k0(s0a)",
                5, "k0(r0x)", 5, "k0(r0no)", 5, "k0(r0cc)", 8, "k0(r0a),nor k0(r0a)", 2, "k0and", 7, "k0(r0a)and");
    }

    private static void wordBehindAnotherText() {
        CHECK.topic("promise 16: a word that is none, whatever text stood before");
        faults(3, "k0(k", 0, "xx0(r0a)", 4, "not not k0", 0, "xxx k0(r0t0)", -1, "k0(r0a)", 0, "xx");
    }

    private static void variableBehindNot() {
        CHECK.topic("promise 16: a VARIABLE behind not that stands in no ATOM without not ahead of it");
        faults(9, "not k0(r0a)", 9, "not k0(r0b)", 9, "not k0(r0c)", 10, "not k0(r0 a),k0(r0a)", 21,
                "k0(r0a),not k0(r0a,r0b)", 17, "k0(r0a),not k0(r0b,r0a)", 17, "k0(r0b),not k0(r0a),k0(r0a)", 14,
                "not k0(r0t1,r0a)", 22, "not k0(r0t1),not k0(r0c)");
    }

    private static void variableAheadOfIt() {
        CHECK.topic("promise 16: a VARIABLE behind not that stands in an ATOM without not ahead of it is right");
        faults(-1, "k0(r0a),not k0(r0a)", -1, "k0(r0a,r1b,r2c),not k0(r0c),not k0(r0b),not k0(r0a)",
                -1, "k0(r0a),k0(r0t1),k0(r0b),not k0(r0a,r1b)", -1, "not k0(r0t1),k0(r0a),not k0(r0a)",
                9, "not k0(r0a)", -1, "k0(r0a),not k0(r0a),k0(r0b)");
    }

    private static void commaAheadOfSeventh() {
        CHECK.topic("promise 16: the first wrong byte: a , ahead of a 7th ATOM");
        faults(-1, SIX_ATOMS, 47, SIX_ATOMS + ",k0(r0a)", 48, SIX_ATOMS + " , k0(r0a)", 47, SIX_ATOMS + ",x",
                47, SIX_ATOMS + ",", 47, SIX_ATOMS + "k0(r0a)", -1, SIX_ATOMS + " ");
    }

    private static void commaAheadOfFifth() {
        CHECK.topic("promise 16: the first wrong byte: a , ahead of a 5th PART");
        faults(-1, FOUR_PARTS + ")", 19, FOUR_PARTS + ",r0a)", 20, FOUR_PARTS + " , r0a)", 19, FOUR_PARTS + ",x",
                19, FOUR_PARTS + ",", 19, FOUR_PARTS, 40, FOUR_PARTS + ")," + FOUR_PARTS + ",r0a)");
    }

    private static void textsLength() {
        CHECK.topic("promise 16: or the text's length, if more must come");
        String whole = "not k0(r0t1,r1t39),k5(r5a)";
        int[] right = {18, whole.length()};
        LineStore x = new LineStore();
        for (int length = 0; length <= whole.length(); length++) {
            String text = whole.substring(0, length);
            // The begin of a word is a word that is none.
            int due = length == 1 || length == 2 ? 0 : length == right[0] || length == right[1] ? -1 : length;
            CHECK.same("fault of '" + text + "'", Texts.fault(x, text), due);
        }
        faults(0, "", 3, "   ", 2, "k ", 5, "not  ", 9, "k0(r0a,  ", 10, "k0(r0a),  ", 400, " ".repeat(400),
                400, "k0(r0a)," + " ".repeat(392));
    }

    private static void usesTheTapeUp() {
        CHECK.topic("promise 15: Uses the TAPE up");
        LineStore x = new LineStore();
        CHECK.same("a right text", Texts.ask(x, "k0(r0a)"), 1);
        CHECK.same("no byte is left", x.end(1), false);
        Texts.feed(x, "k0(r0a)!k0(r0a)");
        CHECK.fails("a wrong text", ARGUMENT, () -> x.question());
        CHECK.same("no byte is left of it", x.end(1), false);
        CHECK.fails("the empty text then", ARGUMENT, () -> x.question());
        CHECK.same("its fault", x.fault(), 0);
        CHECK.same("feed behind none", x.feed(0, 0, 0, 0, 0), 20);
    }

    private static void standsUntilTheNext() {
        CHECK.topic("promises 15, 17: a QUESTION, which stands until the next one");
        LineStore x = new LineStore();
        Steps.put(x, 0, 0, 9, "0:1 0:2");
        Steps.put(x, 1, 0, 9, "0:3");
        Texts.ask(x, "k0(r0a),k0(r0b)");
        CHECK.same("its answers", x.answers(0), 4);
        Texts.feed(x, "k1(r0c)");
        CHECK.same("while the next one is fed", x.answers(0), 4);
        x.question();
        CHECK.same("the next one's", Steps.answers(x, 0), "-,-,3");
        CHECK.same("its atoms", x.count(4), 1);
        CHECK.same("its variables", x.count(5), 1);
    }

    private static void howManyAtoms() {
        CHECK.topic("promise 15: how many ATOMS");
        LineStore x = new LineStore();
        for (int atoms = 1; atoms <= 6; atoms++) {
            CHECK.same(atoms + " atoms", Texts.ask(x, SIX_ATOMS.substring(0, 8 * atoms - 1)), atoms);
        }
        CHECK.same("with not, they count, too", Texts.ask(x, "not k0(r0t1),not k0(r0t1)"), 2);
    }

    private static void oneBeforeStands() {
        CHECK.topic("promise 15: IllegalArgumentException: the text is wrong: the one before stands");
        LineStore x = new LineStore();
        Steps.put(x, 0, 0, 9, "0:1 1:2");
        Steps.put(x, 1, 0, 9, "0:3 1:4");
        Texts.feed(x, "k0(r0a");
        CHECK.fails("wrong, ahead of any", ARGUMENT, () -> x.question());
        CHECK.same("no question stands", x.count(4), 0);
        CHECK.same("it has no answers", x.answers(0), 0);
        Texts.ask(x, "k0(r0a,r1b)");
        for (String wrong : new String[] {"", "k1(r0c)!", "k1(r0t3),k1(r1c),not k1(r0a)", SIX_ATOMS + ","}) {
            Texts.feed(x, wrong);
            CHECK.fails("'" + wrong + "'", ARGUMENT, () -> x.question());
            CHECK.same("the one before: atoms", x.count(4), 1);
            CHECK.same("the one before: variables", x.count(5), 2);
            CHECK.same("the one before: answers", Steps.answers(x, 0), "1,2,-");
        }
    }

    private static void faultOfTheLatest() {
        CHECK.topic("promise 16: The first wrong byte of the latest question(); NONE without one");
        LineStore x = new LineStore();
        CHECK.same("a wrong one", Texts.fault(x, "k0!"), 2);
        CHECK.same("asked for again", x.fault(), 2);
        CHECK.same("another wrong one", Texts.fault(x, "k0(r0!"), 5);
        x.feed(0, 0, 0, 0, 0);
        CHECK.fails("another call that throws", IndexOutOfBoundsException.class, () -> x.as(40));
        CHECK.same("it changes nothing", x.fault(), 5);
        CHECK.same("a right one", Texts.fault(x, "k0(r0a)"), -1);
        CHECK.same("a wrong one behind it", Texts.fault(x, "!"), 0);
    }

    private static void faultAheadOfAny() {
        CHECK.topic("promise 16: NONE ahead of any");
        LineStore x = new LineStore();
        CHECK.same("of a new object", x.fault(), -1);
        x.feed(0x21212121, 0, 0, 0, 0);
        CHECK.same("of a text that was not asked yet", x.fault(), -1);
    }
}
