/** Steps of a few calls that several tests take. */
final class Steps {
    private Steps() {
    }

    /** Ends in words such as "0:5 1:7 2:L3": a ROLE, and a THING or a LINE. */
    static void draft(LineStore x, String ends) {
        for (String end : ends.split(" ")) {
            String[] parts = end.split(":");
            boolean line = parts[1].startsWith("L");
            x.draft(Integer.parseInt(parts[0]), line, Integer.parseInt(line ? parts[1].substring(1) : parts[1]));
        }
    }

    static int put(LineStore x, int kind, int from, int to, String ends) {
        draft(x, ends);
        return x.put(kind, from, to);
    }

    /** ends(..) as a call that has an outcome. */
    static Object ends(LineStore x, int kind, int role, int least, int most) {
        x.ends(kind, role, least, most);
        return "made";
    }

    /** alone(..) as a call that has an outcome. */
    static Object alone(LineStore x, int kind, int role, int most) {
        x.alone(kind, role, most);
        return "made";
    }

    /** All ANSWERS on a day in words such as "1,2,- 3,4,-": a, b and c, and - for one that there is not. */
    static String answers(LineStore x, int day) {
        StringBuilder text = new StringBuilder();
        int all = x.answers(day);
        for (int n = 0; n < all; n++) {
            text.append(n == 0 ? "" : " ");
            for (int variable = 0; variable < 3; variable++) {
                int thing = x.answer(day, n, variable);
                text.append(variable == 0 ? "" : ",").append(thing == LineStore.NONE ? "-" : "" + thing);
            }
        }
        return text.toString();
    }
}
