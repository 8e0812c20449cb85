import java.util.Random;

/** Runs of at most 512 calls, always the same ones, on a LineStore and on the Model: all answers must be alike. */
public final class ModelTest {
    private static final int RUNS = 300;
    private static final int TEXTS = 6000;
    /** What an object answers after these is free. A step takes fewer than 40. */
    private static final int MOST_CALLS = 512;
    private static final int[] WIDTHS = {3, 6, 12, 40};
    private static final Checker CHECK = new Checker();

    private final Random random;
    private final LineStore store = new LineStore();
    private final Model model = new Model();
    /** Few things, kinds, roles and days make laws, joins and questions meet more often. */
    private final int things;
    private final int kinds;
    private final int days;
    /** Most lines are in force on this day and most calls ask about days close to it. */
    private final int focus;
    private int calls = 0;

    private ModelTest(int seed) {
        random = new Random(seed);
        things = WIDTHS[random.nextInt(WIDTHS.length)];
        kinds = 1 + random.nextInt(3);
        days = random.nextBoolean() ? 12 : 1001;
        focus = days / 3 + random.nextInt(days / 3);
    }

    public static void main(String[] args) {
        for (int seed = 0; seed < RUNS && CHECK.wrong() == 0; seed++) {
            CHECK.topic("run " + seed);
            new ModelTest(seed).run(seed % 4);
        }
        CHECK.topic("texts");
        for (int asked = 0; asked < TEXTS && CHECK.wrong() == 0;) {
            asked += new ModelTest(-1 - asked).texts();
        }
        CHECK.finish();
    }

    private void run(int style) {
        for (int kind = 0; style != 0 && kind < kinds; kind++) {
            if (random.nextInt(3) != 0) {
                setHolding(kind, false);
            }
        }
        for (int i = 0; style == 1 && i < 60; i++) {
            putLine(1 + random.nextInt(3));
        }
        for (int i = 0; style == 3 && i < 12; i++) {
            law();
        }
        for (int i = 0; i < 2000 && calls < MOST_CALLS - 40 && CHECK.wrong() == 0; i++) {
            step(random.nextInt(100), style);
        }
    }

    private void step(int dice, int style) {
        if (dice < (style == 2 ? 46 : 36)) {
            putLine(1 + random.nextInt(random.nextInt(8) == 0 ? 7 : 3));
        } else if (dice < 50) {
            int line = line();
            int day = day();
            both("strike(" + line + ", " + day + ")", () -> store.strike(line, day), () -> model.strike(line, day));
        } else if (dice < 55) {
            law();
        } else if (dice < 65) {
            join();
        } else if (dice < 75) {
            String text = random.nextInt(4) == 0 ? spoilt(text()) : text();
            ask(text);
            seeAnswers();
        } else if (dice < 80) {
            seeAnswers();
        } else if (dice < 90) {
            look();
        } else {
            waysAndDegrees();
        }
    }

    private void putLine(int ends) {
        int kind = random.nextInt(30) == 0 ? random.nextInt(9) - 2 : random.nextInt(kinds);
        boolean across = random.nextInt(4) != 0;
        int from = across ? random.nextInt(focus + 1) : day();
        int to = across ? focus + random.nextInt(days - focus) : day();
        for (int i = 0; i < ends; i++) {
            int role = random.nextInt(60) == 0 ? random.nextInt(9) - 2 : random.nextInt(3);
            boolean line = model.count(0) > 0 && random.nextInt(4) == 0;
            int number = line ? line() : thing();
            // A line that hangs on another has days of its own only within the other's.
            if (line && number >= 0 && number < model.count(0) && random.nextInt(8) != 0) {
                from = Math.max(from, model.look(number, 1));
                to = Math.min(to, model.look(number, 2));
            }
            both("draft(" + role + ", " + line + ", " + number + ")",
                    () -> store.draft(role, line, number), () -> model.draft(role, line, number));
        }
        int first = from;
        int last = to;
        both("put(" + kind + ", " + first + ", " + last + ")",
                () -> store.put(kind, first, last), () -> model.put(kind, first, last));
        both("count(1)", () -> store.count(1), () -> model.count(1));
    }

    private void law() {
        int kind = random.nextInt(20) == 0 ? random.nextInt(9) - 2 : random.nextInt(kinds);
        int role = random.nextInt(20) == 0 ? random.nextInt(9) - 2 : random.nextInt(3);
        int least = random.nextInt(10) == 0 ? random.nextInt(10) - 2 : 0;
        int most = random.nextInt(3) == 0 ? random.nextInt(9) : 6;
        int alone = random.nextInt(10) == 0 ? random.nextInt(110) - 4 : random.nextInt(4);
        boolean is = random.nextInt(4) == 0;
        switch (random.nextInt(4)) {
            case 0 -> both("ends(" + kind + ", " + role + ", " + least + ", " + most + ")", () -> {
                store.ends(kind, role, least, most);
                return "made";
            }, () -> {
                model.ends(kind, role, least, most);
                return "made";
            });
            case 1 -> both("alone(" + kind + ", " + role + ", " + alone + ")", () -> {
                store.alone(kind, role, alone);
                return "made";
            }, () -> {
                model.alone(kind, role, alone);
                return "made";
            });
            default -> setHolding(kind, is);
        }
    }

    private void setHolding(int kind, boolean is) {
        both("holds(" + kind + ", " + is + ")", () -> store.holds(kind, is), () -> model.holds(kind, is));
    }

    private void join() {
        int a = thing();
        int b = thing();
        if (random.nextInt(5) < 3) {
            both("one(" + a + ", " + b + ")", () -> store.one(a, b), () -> model.one(a, b));
        } else {
            both("part()", () -> store.part(), () -> model.part());
        }
        both("as(" + a + ")", () -> store.as(a), () -> model.as(a));
        both("count(2)", () -> store.count(2), () -> model.count(2));
        both("count(3)", () -> store.count(3), () -> model.count(3));
    }

    private void look() {
        int line = line();
        int what = random.nextInt(7) - 1;
        int end = random.nextInt(8) - 1;
        both("look(" + line + ", " + what + ")", () -> store.look(line, what), () -> model.look(line, what));
        both("ended(" + line + ", " + end + ", " + what + ")",
                () -> store.ended(line, end, what), () -> model.ended(line, end, what));
        both("count(" + what + ")", () -> store.count(what), () -> model.count(what));
    }

    private void waysAndDegrees() {
        int a = thing();
        int b = thing();
        int day = day();
        int bits = random.nextInt(4) == 0 ? random.nextInt() : 63;
        int kind = random.nextInt(20) == 0 ? random.nextInt(9) - 2 : random.nextInt(kinds);
        int role = random.nextInt(20) == 0 ? random.nextInt(9) - 2 : random.nextInt(3);
        both("ways(" + a + ", " + b + ", " + bits + ", " + day + ")",
                () -> store.ways(a, b, bits, day), () -> model.ways(a, b, bits, day));
        both("degree(" + a + ", " + kind + ", " + role + ", " + day + ")",
                () -> store.degree(a, kind, role, day), () -> model.degree(a, kind, role, day));
    }

    private void ask(String text) {
        Texts.feed(store, text);
        model.end(0);
        byte[] bytes = text.getBytes(java.nio.charset.StandardCharsets.ISO_8859_1);
        java.nio.ByteBuffer numbers = java.nio.ByteBuffer.allocate((bytes.length + 19) / 20 * 20);
        numbers.put(bytes);
        for (int at = 0; at < numbers.capacity(); at += 20) {
            model.feed(numbers.getInt(at), numbers.getInt(at + 4), numbers.getInt(at + 8), numbers.getInt(at + 12),
                    numbers.getInt(at + 16));
        }
        model.end(bytes.length);
        calls += 2 + numbers.capacity() / 20;
        both("question() of '" + text + "'", () -> store.question(), () -> model.question());
        both("fault() of '" + text + "'", () -> store.fault(), () -> model.fault());
        both("count(4)", () -> store.count(4), () -> model.count(4));
        both("count(5)", () -> store.count(5), () -> model.count(5));
    }

    private void seeAnswers() {
        int day = day();
        both("answers(" + day + ")", () -> store.answers(day), () -> model.answers(day));
        int all = model.answers(day);
        for (int i = 0; i < 3; i++) {
            int n = random.nextInt(all + 2) - (random.nextInt(10) == 0 ? 1 : 0);
            int variable = random.nextInt(10) == 0 ? random.nextInt(6) - 2 : random.nextInt(3);
            both("answer(" + day + ", " + n + ", " + variable + ")",
                    () -> store.answer(day, n, variable), () -> model.answer(day, n, variable));
        }
    }

    /** How many texts were asked. */
    private int texts() {
        int asked = 0;
        for (; calls < MOST_CALLS - 40 && CHECK.wrong() == 0; asked++) {
            ask(random.nextInt(5) == 0 ? text() : spoilt(text()));
        }
        return asked;
    }

    /** A text that is mostly right. */
    private String text() {
        StringBuilder text = new StringBuilder(blank());
        int atoms = random.nextInt(12) == 0 ? 7 : 1 + random.nextInt(random.nextBoolean() ? 2 : 6);
        for (int i = 0; i < atoms; i++) {
            text.append(i == 0 ? "" : "," + blank());
            text.append(random.nextInt(3) == 0 && (i > 0 || random.nextInt(5) == 0) ? "not " + blank() : "");
            text.append("k").append(blank()).append(random.nextInt(kinds)).append(blank()).append("(");
            int parts = random.nextInt(20) == 0 ? 5 : 1 + random.nextInt(random.nextBoolean() ? 2 : 4);
            for (int j = 0; j < parts; j++) {
                text.append(j == 0 ? "" : blank() + ",").append(blank()).append("r");
                text.append(random.nextInt(9) == 0 ? "0" : "").append(random.nextInt(3)).append(blank());
                text.append(random.nextInt(4) == 0 ? "t" + Math.floorMod(thing(), 42)
                        : "" + "abc".charAt(random.nextInt(3)));
                text.append(blank());
            }
            text.append(")").append(blank());
        }
        return text.toString();
    }

    private String spoilt(String text) {
        StringBuilder spoilt = new StringBuilder(text);
        String signs = "  notkrtabcd0123456789(),,\t\0\u00e1Kz";
        for (int i = random.nextInt(3); i >= 0; i--) {
            int at = random.nextInt(spoilt.length() + 1);
            char sign = signs.charAt(random.nextInt(signs.length()));
            switch (random.nextInt(4)) {
                case 0 -> spoilt.insert(at, sign);
                case 1 -> spoilt.replace(at, Math.min(at + 1, spoilt.length()), "" + sign);
                case 2 -> spoilt.delete(at, Math.min(at + 1, spoilt.length()));
                default -> spoilt.setLength(random.nextInt(6) == 0 ? at : spoilt.length());
            }
        }
        return spoilt.toString();
    }

    private String blank() {
        return random.nextInt(6) == 0 ? " ".repeat(1 + random.nextInt(2)) : "";
    }

    private int thing() {
        return random.nextInt(60) == 0 ? random.nextInt(50) - 5 : random.nextInt(things);
    }

    private int line() {
        int all = model.count(0);
        return all == 0 || random.nextInt(40) == 0 ? random.nextInt(130) - 3 : random.nextInt(all);
    }

    private int day() {
        if (random.nextInt(40) == 0) {
            return random.nextInt(1100) - 30;
        }
        return random.nextInt(4) == 0 ? random.nextInt(days) : focus - 1 + random.nextInt(4);
    }

    private void both(String call, Checker.Call ofStore, Checker.Call ofModel) {
        calls++;
        CHECK.same("call " + calls + ", " + call, Checker.outcome(ofStore), Checker.outcome(ofModel));
    }
}
