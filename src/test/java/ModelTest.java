import java.util.*;

/** Long runs of drawn calls (from fixed numbers), each answer against the model's. */
public final class ModelTest {
    static long state;
    static int draw(int n) { state = state * 6364136223846793005L + 1442695040888963407L; return (int) ((state >>> 33) % n); }
    /** Mostly in 0 .. n-1, at times just outside, seldom far away. */
    static int near(int n) {
        int r = draw(60);
        if (r == 0) return new int[]{Integer.MIN_VALUE, Integer.MAX_VALUE, -2, 1000}[draw(4)];
        if (r < 4) return draw(n + 3) - 1;
        return draw(Math.max(n, 1));
    }

    static final String[] NAMES = {"kind", "depth", "minute", "party", "there", "members", "yes", "no"};
    static void one(StringBuilder b, int d) {
        int r = draw(10);
        if (d > 0 && r == 0) { b.append("("); expr(b, d - 1); b.append(")"); }
        else if (d > 0 && r == 1) { b.append("-"); one(b, d - 1); }
        else if (r < 5) b.append(draw(3) == 0 ? draw(10000) : draw(8));
        else b.append(NAMES[draw(8)]).append(draw(2) == 0 ? " " : "\n");
    }
    static void sum(StringBuilder b, int d) {
        one(b, d);
        while (draw(4) == 0) { b.append(new String[]{"+", "-", "*"}[draw(3)]); one(b, d); }
    }
    static void claim(StringBuilder b, int d) {
        if (d > 0 && draw(8) == 0) { b.append("not "); claim(b, d - 1); return; }
        sum(b, d);
        if (draw(3) == 0) { b.append(draw(2) == 0 ? "<" : "="); sum(b, d); }
    }
    static void expr(StringBuilder b, int d) {
        claim(b, d);
        while (draw(7) == 0) { b.append(draw(2) == 0 ? " or " : " and "); claim(b, d); }
    }
    static String text() {
        StringBuilder b = new StringBuilder();
        int plain = draw(2);
        b.append("rank "); if (plain == 0 && draw(2) == 0) b.append("9 * depth + ").append(draw(7)); else expr(b, draw(7)); b.append(";may ");
        if (plain == 0) b.append("1"); else expr(b, 2);
        b.append(";pass "); if (draw(2) == 0) b.append("no < yes"); else expr(b, 2);
        b.append(";quorum "); if (plain == 0) b.append("1"); else expr(b, 2);
        b.append(";");
        if (draw(4) == 0) {
            int at = draw(b.length());
            int how = draw(4);
            if (how == 0) b.deleteCharAt(at);
            else if (how == 1) b.insert(at, "();+-*<= 0x?\u00e9not rank".charAt(draw(21)));
            else if (how == 2) b.setCharAt(at, "();+-*<= 0x?\u00e9not rank".charAt(draw(21)));
            else b.setLength(at);
        }
        return b.toString();
    }
    static void feed(HouseCalendar x, HouseModel y, String t, StringBuilder log) {
        for (int i = 0; i < t.length(); i += 8) {
            int n = Math.min(8, t.length() - i);
            long v = 0;
            for (int j = n - 1; j >= 0; j--) v = v << 8 | t.charAt(i + j);
            same("feed " + n + " " + v, x.feed(n, v), y.feed(n, v), log);
        }
    }

    static int wrong = 0, calls = 0;
    static final Map<String, Set<Long>> seen = new TreeMap<>();
    static void same(String call, long got, long want, StringBuilder log) {
        calls++;
        log.append(call).append(" -> ").append(got).append('\n');
        Set<Long> answers = seen.computeIfAbsent(call.split(" ")[0], k -> new TreeSet<>());
        if (answers.size() < 60) answers.add(want);
        if (got == want) return;
        wrong++;
        if (wrong == 1) System.out.println(log + "  but due is " + want);
    }

    static void run(int seed) {
        state = seed * 7919L + 12345;
        for (int i = 0; i < 5; i++) draw(2);
        HouseCalendar x = new HouseCalendar();
        HouseModel y = new HouseModel();
        StringBuilder log = new StringBuilder("run " + seed + "\n");
        int style = draw(6);
        int words = draw(2) == 0 ? 5 : 60;
        int start = draw(4) == 0 ? 0 : 3 + draw(6);
        for (int i = 0; i < start; i++) { int p = draw(4); same("member " + p, x.member(p), y.member(p), log); }
        for (int i = 0; i < start * 4; i++) {
            int m = draw(start), w = 1 + draw(words), l = draw(19) - 9;
            same("like " + m + " " + w + " " + l, x.like(m, w, l), y.like(m, w, l), log);
        }
        if (style < 3) {
            for (int i = 0; i < 2; i++) {
                same("bill", x.bill(), y.bill(), log);
                for (int j = draw(11); j > 0; j--) { int w = 1 + draw(words); same("section " + i + " " + w, x.section(i, w), y.section(i, w), log); }
            }
            same("report", x.report(0), y.report(0), log);
            same("call", x.call(), y.call(), log);
        }
        if (style == 1 || style == 4) {
            String t = "rank 7*depth+kind;may 1;pass no<yes+" + draw(2) + "+depth*" + (draw(5) - 2 < 0 ? 0 : 1) + ";quorum 1;";
            feed(x, y, t, log);
            same("text", x.text(), y.text(), log);
            if (y.people.size() > 0) {
                same("act", x.act(6, 0, 0, 1), y.act(6, 0, 0, 1), log);
                for (int i = 0; i < y.people.size(); i++) same("ask", x.ask(i, 1), y.ask(i, 1), log);
                same("vote", x.vote(), y.vote(), log);
                for (int i = 0; i < y.people.size(); i++) same("ask", x.ask(i, 0), y.ask(i, 0), log);
            }
        }
        for (int c = 0; c < 300 && wrong == 0; c++) step(x, y, words, style, log);
    }

    static int size(HouseModel y) { return y.up == null ? 10 : y.up.rows.size(); }

    static void step(HouseCalendar x, HouseModel y, int words, int style, StringBuilder log) {
        int ms = y.people.size(), bs = y.laws.size();
        switch (draw(44)) {
            case 0: { int p = near(4); if (draw(3) == 0) same("member " + p, x.member(p), y.member(p), log); break; }
            case 1: case 2: { int m = near(ms), w = 1 + near(words), l = near(19) - 9; same("like " + m + " " + w + " " + l, x.like(m, w, l), y.like(m, w, l), log); break; }
            case 3: { int m = near(ms); boolean is = draw(3) > 0; same("comes " + m + " " + is, x.comes(m, is), y.comes(m, is), log); break; }
            case 4: { int a = near(ms), b = near(ms); if (draw(3) == 0) same("pair " + a + " " + b, x.pair(a, b), y.pair(a, b), log); break; }
            case 5: { int m = near(ms); same("part " + m, x.part(m), y.part(m), log); break; }
            case 6: { int m = near(ms), h = near(3); same("ask " + m + " " + h, x.ask(m, h), y.ask(m, h), log); break; }
            case 7: { int m = near(ms), w = near(4); same("memberTold " + m + " " + w, x.memberTold(m, w), y.memberTold(m, w), log); break; }
            case 8: if (draw(4) == 0) same("bill", x.bill(), y.bill(), log); break;
            case 9: case 10: case 11: { int b = near(bs), w = 1 + near(words); same("section " + b + " " + w, x.section(b, w), y.section(b, w), log); break; }
            case 12: { int b = near(bs), w = near(4); same("billTold " + b + " " + w, x.billTold(b, w), y.billTold(b, w), log); break; }
            case 13: { int b = near(bs), s = near(10); same("word " + b + " " + s, x.word(b, s), y.word(b, s), log); break; }
            case 14: { int b = near(bs), m = near(ms); same("worth " + b + " " + m, x.worth(b, m), y.worth(b, m), log); break; }
            case 15: { int b = near(bs); if (draw(3) == 0) same("report " + b, x.report(b), y.report(b), log); break; }
            case 16: { int b = near(bs), m = near(ms); same("sign " + b + " " + m, x.sign(b, m), y.sign(b, m), log); break; }
            case 17: same("call", x.call(), y.call(), log); break;
            case 18: { int n = near(9); long v = ((long) draw(1 << 30) << 34) ^ draw(1 << 30); if (draw(4) == 0) same("feed " + n + " " + v, x.feed(n, v), y.feed(n, v), log); break; }
            case 19: if (draw(2) == 0) feed(x, y, text(), log); break;
            case 20: same("text", x.text(), y.text(), log); break;
            case 21: case 22: {
                int t = near(y.texts.size()), p = near(4), k = near(7), q = near(4), a = near(16), n = near(16);
                same("says " + t + " " + p + " " + k + " " + q + " " + a + " " + n, x.says(t, p, k, q, a, n), y.says(t, p, k, q, a, n), log);
                break;
            }
            case 23: case 24: case 25: case 26: case 27: {
                int k = near(7);
                if (style != 5 && k >= 4 && draw(3) > 0) k = 1 + draw(3);
                if (y.pile.isEmpty() && draw(2) == 0) k = 0;
                int m = near(ms), p = near(size(y) + 1), w = k == 6 ? near(y.texts.size()) : 1 + near(words);
                String args = " " + k + " " + m + " " + p + " " + w;
                same("why" + args, x.why(k, m, p, w), y.why(k, m, p, w), log);
                same("act" + args, x.act(k, m, p, w), y.act(k, m, p, w), log);
                break;
            }
            case 28: {
                if (y.pile.size() == 1 && draw(4) > 0) break;
                same("vote", x.vote(), y.vote(), log);
                for (int i = 0; i < 5; i++) same("voted " + (i - 0), x.voted(i), y.voted(i), log);
                for (int i = 0; i < y.laws.size(); i++) for (int s = 0; s < 4; s++) same("billTold " + i + " " + s, x.billTold(i, s), y.billTold(i, s), log);
                break;
            }
            case 29: { int m = near(ms); same("would " + m, x.would(m), y.would(m), log); break; }
            case 30: { int i = near(y.pile.size()), w = near(5); same("motion " + i + " " + w, x.motion(i, w), y.motion(i, w), log); break; }
            case 31: if (draw(5) == 0) same("yield", x.yield(), y.yield_(), log); break;
            case 32: if (draw(9) == 0) same("day", x.day(), y.day(), log); break;
            case 33: case 34: case 35: {
                int k = 1 + near(3), p = near(size(y) + 1), w = 1 + near(words);
                same("tell " + k + " " + p + " " + w, x.tell(k, p, w), y.tell(k, p, w), log);
                break;
            }
            case 36: { int m = near(ms); if (draw(4) == 0) same("best " + m, x.best(m), y.best(m), log); break; }
            case 37: {
                int m = near(ms), order = 0;
                List<Integer> all = new ArrayList<>();
                for (int i = 0; i < y.told.size(); i++) all.add(i);
                while (!all.isEmpty()) order = order * 6 + all.remove(draw(all.size()));
                if (draw(10) == 0) order = near(7776);
                same("foresee " + order + " " + m, x.foresee(order, m), y.foresee(order, m), log);
                break;
            }
            case 38: {
                int a = near(bs), b = near(bs);
                if (draw(3) > 0) break;
                same("confer " + a + " " + b, x.confer(a, b), y.confer(a, b), log);
                for (int i = -1; i < 11; i++) same("conferred " + a + " " + b + " " + i, x.conferred(a, b, i), y.conferred(a, b, i), log);
                break;
            }
            case 39: { for (int i = -1; i < 13; i++) same("count " + i, x.count(i), y.count(i), log); break; }
            case 40: { int t = near(4), n = near(45) - 3; if (draw(2) == 0) same("tray " + t + " " + n, x.tray(t, n), y.tray(t, n), log); break; }
            case 41: { int t = near(4), i = near(8), v = draw(3) == 0 ? near(1000) : near(7); same("cell " + t + " " + i + " " + v, x.cell(t, i, v), y.cell(t, i, v), log); break; }
            case 42: { int t = near(4), f = near(5); same("made " + t + " " + f, x.made(t, f), y.made(t, f), log); break; }
            default: {
                int i = near(y.pile.size()), k = near(7);
                same("taken " + i + " " + k, x.taken(i, k), y.taken(i, k), log);
                for (int j = 0; j < y.pile.size(); j++) for (int w = 0; w < 5; w++) same("motion " + j + " " + w, x.motion(j, w), y.motion(j, w), log);
                break;
            }
        }
    }

    // ---- runs that stay on the floor: high piles, full BILLS, DAYS near their last MINUTE, many TOLD

    static final String[] RANKS = {"kind", "4 * kind + party", "(kind + party) * (1 - 2 * (depth = 2 or depth = 4 or depth = 6))", "minute * (kind - 2) + party"};
    static final String[] PASSES = {"no < yes", "1", "yes + depth = 3", "95 < minute or no < yes", "kind * yes < no + party + 1", "not (there < yes + yes + no)"};

    static void floorRun(int seed) {
        state = seed * 104729L + 777;
        for (int i = 0; i < 5; i++) draw(2);
        HouseCalendar x = new HouseCalendar();
        HouseModel y = new HouseModel();
        StringBuilder log = new StringBuilder("floor run " + seed + "\n");
        int words = 3 + draw(10), size = 1 + draw(15);
        for (int i = 0; i < size; i++) { int p = draw(4); same("member " + p, x.member(p), y.member(p), log); }
        for (int i = 0; i < Math.min(size * 4, 40); i++) {
            int m = draw(size), w = 1 + draw(words), l = draw(19) - 9;
            same("like " + m + " " + w + " " + l, x.like(m, w, l), y.like(m, w, l), log);
        }
        same("bill", x.bill(), y.bill(), log);
        for (int j = draw(2) == 0 ? 10 : draw(11); j > 0; j--) { int w = 1 + draw(words); same("section 0 " + w, x.section(0, w), y.section(0, w), log); }
        same("report", x.report(0), y.report(0), log);
        floorRule(x, y, size, log);
        for (int n = draw(3) == 0 ? 44 + draw(6) : 0; n > 0; n--) {
            same("act 6", x.act(6, 0, 0, y.rule), y.act(6, 0, 0, y.rule), log);
            same("vote", x.vote(), y.vote(), log);
        }
        same("call", x.call(), y.call(), log);
        same("act 0", x.act(0, 0, 0, 0), y.act(0, 0, 0, 0), log);
        for (int c = 0; c < 150 && wrong == 0; c++) floorStep(x, y, words, log);
    }

    static void floorRule(HouseCalendar x, HouseModel y, int size, StringBuilder log) {
        feed(x, y, "rank " + RANKS[draw(RANKS.length)] + "; may 1; pass " + PASSES[draw(PASSES.length)] + "; quorum 1;", log);
        same("text", x.text(), y.text(), log);
        for (int i = 0; i < size; i++) same("ask", x.ask(i, 1), y.ask(i, 1), log);
        same("act 6", x.act(6, 0, 0, 1), y.act(6, 0, 0, 1), log);
        same("vote", x.vote(), y.vote(), log);
        for (int i = 0; i < size; i++) { int how = draw(4) == 0 ? 1 + draw(2) : 0; same("ask", x.ask(i, how), y.ask(i, how), log); }
    }

    static void floorStep(HouseCalendar x, HouseModel y, int words, StringBuilder log) {
        int size = y.people.size();
        int m = draw(size), k = 1 + draw(draw(20) == 0 ? 5 : 3), place = near(size(y) + 1), w = 1 + draw(words);
        switch (draw(12)) {
            case 0: case 1: case 2: case 3: case 4: {
                if (y.pile.isEmpty()) k = 0;
                String args = " " + k + " " + m + " " + place + " " + w;
                same("why" + args, x.why(k, m, place, w), y.why(k, m, place, w), log);
                same("act" + args, x.act(k, m, place, w), y.act(k, m, place, w), log);
                break;
            }
            case 5: case 6:
                if (draw(8) > y.pile.size()) break;
                same("would " + m, x.would(m), y.would(m), log);
                same("vote", x.vote(), y.vote(), log);
                for (int i = 0; i < 4; i++) same("voted " + i, x.voted(i), y.voted(i), log);
                for (int i = 0; i < 10; i++) same("word 0 " + i, x.word(0, i), y.word(0, i), log);
                break;
            case 7: case 8: same("tell " + k + " " + place + " " + w, x.tell(k, place, w), y.tell(k, place, w), log); break;
            case 9: {
                if (y.told.size() < 3 && draw(3) > 0) break;
                same("best " + m, x.best(m), y.best(m), log);
                int order = Math.max(y.best(m), 0);
                same("foresee " + order + " " + m, x.foresee(order, m), y.foresee(order, m), log);
                break;
            }
            case 10: if (draw(6) == 0) same("day", x.day(), y.day(), log); else if (draw(6) == 0) same("yield", x.yield(), y.yield_(), log); break;
            default:
                if (draw(3) == 0) same("comes " + m, x.comes(m, w % 2 == 0), y.comes(m, w % 2 == 0), log);
                for (int j = 0; j < y.pile.size(); j++) for (int v = 0; v < 5; v++) same("motion " + j + " " + v, x.motion(j, v), y.motion(j, v), log);
                break;
        }
    }

    public static void main(String[] args) {
        int runs = args.length > 0 ? Integer.parseInt(args[0]) : 1500;
        for (int seed = 0; seed < runs && wrong == 0; seed++) {
            run(seed);
            if (seed % 5 == 0 && wrong == 0) floorRun(seed);
        }
        if (args.length > 1) seen.forEach((k, v) -> System.out.println(k + " " + v));
        System.out.println("ModelTest: " + calls + " calls, " + wrong + " wrong");
        if (wrong != 0) System.exit(1);
    }
}
