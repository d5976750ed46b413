import java.util.*;

/** Tests of one edge each: a run of calls on a new object, and the answer that is due at the last one. */
class Edges {
    static final int NONE = HouseCalendar.NONE, BAD = HouseCalendar.BAD, STATE = HouseCalendar.STATE, FULL = HouseCalendar.FULL;
    static final long NO = HouseCalendar.NO;
    static final String[] FAR = {"low", "-1", "high"};

    // What the document promises of an object ends with its 512th call.
    private static final int MOST_CALLS = 512;

    private static int wrong, tests;
    private static final List<List<String>> SIGHTS = sights();

    /** The last call's answer. */
    static void edge(String sentence, String calls, long want) {
        int size = Run.of(calls).size();
        if (size > MOST_CALLS) fail(sentence, calls, "has " + size + " calls");
        late(sentence, calls, want);
    }

    /** The last call's answer, for the edges that no shorter run comes to. */
    static void late(String sentence, String calls, long want) {
        tests++;
        long got = Run.all(new HouseCalendar(), Run.of(calls));
        if (got != want) fail(sentence, calls, "answered " + got + ", due is " + want);
    }

    /** The last call's answer, for each value in the place of #, each on a new object. */
    static void edges(String sentence, String calls, long want, String... values) {
        for (String value : values) edge(sentence, calls.replace("#", value), want);
    }

    /** The last call is refused so, for each value in the place of #, and has changed nothing: an object without it answers as one with it does. */
    static void refused(String sentence, String calls, long want, String... values) {
        for (String value : values.length == 0 ? new String[]{"#"} : values) {
            String run = calls.replace("#", value);
            edge(sentence, run, want);
            unchanged(sentence, run);
        }
    }

    static void lateRefused(String sentence, String calls, long want) {
        late(sentence, calls, want);
        unchanged(sentence, calls);
    }

    private static void unchanged(String sentence, String calls) {
        List<String> with = Run.of(calls);
        List<String> without = with.subList(0, with.size() - 1);
        for (List<String> sight : SIGHTS) same(sentence, calls, without, with, sight);
    }

    /** Numbers that are far outside, -1, and one more. */
    static String[] outside(int next) {
        String[] values = Arrays.copyOf(FAR, FAR.length + 1);
        values[FAR.length] = "" + next;
        return values;
    }

    private static void same(String sentence, String calls, List<String> without, List<String> with, List<String> sight) {
        HouseCalendar x = new HouseCalendar(), y = new HouseCalendar();
        Run.all(x, without);
        Run.all(y, with);
        for (String line : sight) {
            long due = Run.one(x, line), got = Run.one(y, line);
            if (due == got) continue;
            fail(sentence, calls, "was refused, but then " + line + " answered " + got + ", due is " + due);
            return;
        }
    }

    private static void fail(String sentence, String calls, String what) {
        wrong++;
        String end = calls.length() > 300 ? ".. " + calls.substring(calls.length() - 300) : calls;
        System.out.println(sentence + "\n  " + end + "\n  " + what);
    }

    static void end(String name) {
        System.out.println(name + ": " + tests + " edges, " + wrong + " wrong");
        if (wrong != 0) System.exit(1);
    }

    // ---- the sights: rows of calls that together see all that an object holds

    private static List<List<String>> sights() {
        return List.of(told(), worths(), likes(), texts(), names(), trays(), foreseen(), whys(), ending());
    }

    private static void each(List<String> row, String call, int... ends) {
        if (ends.length == 0) { row.add(call); return; }
        for (int i = 0; i < ends[0]; i++) each(row, call.replaceFirst("#", "" + i), Arrays.copyOfRange(ends, 1, ends.length));
    }

    private static List<String> told() {
        List<String> row = new ArrayList<>();
        each(row, "count #", 12);
        each(row, "memberTold # #", 15, 4);
        each(row, "billTold # #", 8, 4);
        each(row, "voted #", 4);
        each(row, "motion # #", 8, 5);
        each(row, "would #", 15);
        return row;
    }

    private static List<String> worths() {
        List<String> row = new ArrayList<>();
        each(row, "word # #", 8, 10);
        each(row, "worth # #", 8, 15);
        return row;
    }

    private static List<String> likes() {
        List<String> row = new ArrayList<>();
        for (int w = 1; w <= 60; w++) each(row, "like # " + w + " 0", 4);
        return row;
    }

    private static List<String> texts() {
        List<String> row = new ArrayList<>();
        each(row, "says # # 3 2 5 4", 8, 4);
        row.add("text");
        row.add("count 3");
        row.add("count 5");
        each(row, "says # # 3 2 5 4", 8, 4);
        return row;
    }

    private static List<String> names() {
        List<String> row = new ArrayList<>();
        each(row, "sign # #", 8, 15);
        for (int i = 0; i < 8; i++) row.add("call");
        each(row, "billTold # #", 8, 4);
        return row;
    }

    private static List<String> trays() {
        List<String> row = new ArrayList<>();
        each(row, "made # #", 4, 38);
        each(row, "cell # # 0", 4, 40);
        return row;
    }

    private static List<String> foreseen() {
        List<String> row = new ArrayList<>();
        each(row, "best #", 15);
        each(row, "foresee # 0", 48);
        each(row, "tell 2 0 #", 7);
        row.add("best 0");
        return row;
    }

    private static List<String> whys() {
        List<String> row = new ArrayList<>();
        each(row, "why # # 0 1", 7, 15);
        return row;
    }

    private static List<String> ending() {
        List<String> row = new ArrayList<>();
        for (int i = 0; i < 9; i++) {
            row.add("vote");
            each(row, "voted #", 4);
            each(row, "word 0 #", 10);
            row.add("count 7");
        }
        row.add("yield");
        row.add("day");
        each(row, "part #", 15);
        row.add("bill");
        row.add("member 0");
        return row;
    }
}
