import java.util.*;

/** The document told a second time, slowly and with objects for SECTIONS, so that both tellings can be compared. */
final class HouseModel {
    static final int NONE = -1, BAD = -2, STATE = -3, FULL = -4;
    static final long NO = -4611686018427387904L;

    static final class Person { int party; boolean there = true; Person mate; int asked; Map<Integer, Integer> likes = new HashMap<>(); }
    static final class Sec { int word; Sec(int w) { word = w; } }
    static final class Law { int how; List<Sec> rows = new ArrayList<>(); Set<Person> names = new HashSet<>(); }
    static final class Mot {
        int kind; Person mover; int word = NONE; Sec at; boolean behindAll, gone;
        Mot copy() { Mot m = new Mot(); m.kind = kind; m.mover = mover; m.word = word; m.at = at; m.behindAll = behindAll; m.gone = gone; return m; }
    }
    interface Tree { int of(Map<String, Integer> names); }
    static final class Bad extends RuntimeException { final int place; Bad(int p) { super("", null, false, false); place = p; } }

    final List<Person> people = new ArrayList<>();
    final List<Law> laws = new ArrayList<>();
    final List<Law> calendar = new ArrayList<>();
    Law up;
    final List<Mot> pile = new ArrayList<>(), told = new ArrayList<>();
    final List<Tree[]> texts = new ArrayList<>();
    final StringBuilder tape = new StringBuilder();
    int rule, day, minute, lastYes, lastNo, lastKind = NONE, lastCarried;
    final byte[][] trays = new byte[4][];

    HouseModel() { texts.add(parse("rank kind ; may 1 ; pass no < yes ; quorum members < there + there ;")); }

    boolean mem(int m) { return m >= 0 && m < people.size(); }
    boolean law(int b) { return b >= 0 && b < laws.size(); }
    static boolean wd(int w) { return w >= 1 && w <= 60; }

    int member(int party) {
        if (party < 0 || party > 3) return BAD;
        if (people.size() == 15) return FULL;
        Person p = new Person(); p.party = party; people.add(p);
        return people.size() - 1;
    }
    int like(int m, int w, int much) {
        if (!mem(m) || !wd(w) || Math.abs((long) much) > 9) return -100;
        Integer old = people.get(m).likes.put(w, much);
        return old == null ? 0 : old;
    }
    int comes(int m, boolean is) { if (!mem(m)) return BAD; boolean was = people.get(m).there; people.get(m).there = is; return was != is ? 1 : 0; }
    int pair(int a, int b) {
        if (!mem(a) || !mem(b) || a == b) return BAD;
        Person p = people.get(a), q = people.get(b);
        if (p.mate != null || q.mate != null) return STATE;
        p.mate = q; q.mate = p; return 1;
    }
    int part(int m) {
        if (!mem(m)) return BAD;
        Person p = people.get(m), q = p.mate;
        if (q == null) return STATE;
        p.mate = null; q.mate = null; return people.indexOf(q);
    }
    int ask(int m, int how) { if (!mem(m) || how < 0 || how > 2) return BAD; int was = people.get(m).asked; people.get(m).asked = how; return was; }
    int memberTold(int m, int what) {
        if (!mem(m) || what < 0 || what > 3) return BAD;
        Person p = people.get(m);
        return what == 0 ? p.party : what == 1 ? (p.there ? 1 : 0) : what == 2 ? people.indexOf(p.mate) : p.asked;
    }
    int bill() { if (laws.size() == 8) return FULL; laws.add(new Law()); return laws.size() - 1; }
    int section(int b, int w) {
        if (!law(b) || !wd(w)) return BAD;
        if (laws.get(b).how != 0) return STATE;
        if (laws.get(b).rows.size() == 10) return FULL;
        laws.get(b).rows.add(new Sec(w)); return laws.get(b).rows.size();
    }
    int billTold(int b, int what) {
        if (!law(b) || what < 0 || what > 3) return BAD;
        Law l = laws.get(b);
        return what == 0 ? l.how : what == 1 ? l.rows.size() : what == 2 ? calendar.indexOf(l) : l.names.size();
    }
    int word(int b, int s) { if (!law(b)) return BAD; return s < 0 || s >= laws.get(b).rows.size() ? NONE : laws.get(b).rows.get(s).word; }
    static int sum(List<Sec> rows, Person p) { int s = 0; for (Sec x : rows) s += p.likes.getOrDefault(x.word, 0); return s; }
    long worth(int b, int m) { return !law(b) || !mem(m) ? NO : sum(laws.get(b).rows, people.get(m)); }
    int report(int b) {
        if (!law(b)) return BAD;
        if (laws.get(b).how != 0) return STATE;
        laws.get(b).how = 1; calendar.add(laws.get(b)); return calendar.size() - 1;
    }
    int sign(int b, int m) {
        if (!law(b) || !mem(m)) return BAD;
        Law l = laws.get(b);
        if (l.how != 0 || !l.names.add(people.get(m))) return STATE;
        if (l.names.size() * 2 > people.size()) { l.how = 1; calendar.add(l); }
        return l.names.size();
    }
    int call() { if (up != null || calendar.isEmpty()) return STATE; up = calendar.remove(0); up.how = 2; return laws.indexOf(up); }

    // ---- texts: recursive descent straight over the tape
    private String s; private int pos, open;
    private int start; private String tok;
    private void lex() {
        while (pos < s.length() && (s.charAt(pos) == ' ' || s.charAt(pos) == 10)) pos++;
        start = pos;
        if (pos == s.length()) { tok = ""; return; }
        String rest = s.substring(pos);
        java.util.regex.Matcher m = java.util.regex.Pattern.compile("\\A(?:([a-z]{1,7})|([0-9]+)|([();+\\-*<=]))").matcher(rest);
        if (!m.find()) throw new Bad(start);
        tok = m.group();
        pos += tok.length();
        if (m.group(1) != null && !Set.of("kind", "depth", "minute", "party", "there", "members", "yes", "no", "rank", "may", "pass", "quorum", "or", "and", "not").contains(tok)) throw new Bad(start);
        if (m.group(2) != null && tok.length() > 4) throw new Bad(start);
    }
    private void eat(String t) { if (!tok.equals(t)) throw new Bad(start); lex(); }
    Tree[] parse(String text) {
        s = text; pos = 0; open = 0;
        Tree[] parts = new Tree[4];
        String[] keys = {"rank", "may", "pass", "quorum"};
        lex();
        for (int i = 0; i < 4; i++) { eat(keys[i]); parts[i] = level(0); eat(";"); }
        if (!tok.isEmpty()) throw new Bad(start);
        return parts;
    }
    private Tree level(int n) {
        if (n == 0 || n == 1) {
            Tree left = level(n + 1);
            String op = n == 0 ? "or" : "and";
            while (tok.equals(op)) {
                lex();
                Tree a = left, b = level(n + 1);
                left = n == 0 ? v -> a.of(v) != 0 | b.of(v) != 0 ? 1 : 0 : v -> a.of(v) != 0 & b.of(v) != 0 ? 1 : 0;
            }
            return left;
        }
        if (n == 2) {
            if (tok.equals("not")) { opening(); Tree a = level(2); open--; return v -> a.of(v) == 0 ? 1 : 0; }
            Tree a = level(3);
            if (tok.equals("<")) { lex(); Tree b = level(3); return v -> a.of(v) < b.of(v) ? 1 : 0; }
            if (tok.equals("=")) { lex(); Tree b = level(3); return v -> a.of(v) == b.of(v) ? 1 : 0; }
            return a;
        }
        if (n == 3) {
            Tree left = level(4);
            while (tok.equals("+") || tok.equals("-")) {
                boolean plus = tok.equals("+");
                lex();
                Tree a = left, b = level(4);
                left = plus ? v -> a.of(v) + b.of(v) : v -> a.of(v) - b.of(v);
            }
            return left;
        }
        if (n == 4) {
            Tree left = level(5);
            while (tok.equals("*")) { lex(); Tree a = left, b = level(5); left = v -> a.of(v) * b.of(v); }
            return left;
        }
        if (tok.equals("(")) { opening(); Tree a = level(0); if (!tok.equals(")")) throw new Bad(start); open--; lex(); return a; }
        if (tok.equals("-")) { opening(); Tree a = level(5); open--; return v -> -a.of(v); }
        if (!tok.isEmpty() && Character.isDigit(tok.charAt(0))) { int x = Integer.parseInt(tok); lex(); return v -> x; }
        if (Set.of("kind", "depth", "minute", "party", "there", "members", "yes", "no").contains(tok)) { String name = tok; lex(); return v -> v.get(name); }
        throw new Bad(start);
    }
    private void opening() { if (open == 5) throw new Bad(start); open++; lex(); }

    int feed(int n, long bytes) {
        if (n < 1 || n > 8) return BAD;
        if (tape.length() + n > 200) return FULL;
        for (int i = 0; i < n; i++) { tape.append((char) (bytes & 255)); bytes >>>= 8; }
        return tape.length();
    }
    int text() {
        if (texts.size() == 8) return FULL;
        String t = tape.toString();
        tape.setLength(0);
        try { texts.add(parse(t)); } catch (Bad b) { return -100 - b.place; }
        return texts.size() - 1;
    }
    int eval(int text, int part, int kind, int party, int depth, int yes, int no) {
        Map<String, Integer> v = new HashMap<>();
        v.put("kind", kind); v.put("party", party); v.put("depth", depth); v.put("yes", yes); v.put("no", no);
        v.put("minute", minute); v.put("there", (int) people.stream().filter(p -> p.there).count()); v.put("members", people.size());
        return texts.get(text)[part].of(v);
    }
    long says(int text, int part, int kind, int party, int yes, int no) {
        if (text < 0 || text >= texts.size() || part < 0 || part > 3 || kind < 0 || kind > 6 || party < 0 || party > 3) return NO;
        if (yes < 0 || yes > 15 || no < 0 || no > 15) return NO;
        return eval(text, part, kind, party, pile.size(), yes, no);
    }
    int rank(int kind, Person mover) { return eval(rule, 0, kind, mover.party, pile.size(), 0, 0); }

    static boolean amendment(int k) { return k >= 1 && k <= 3; }
    int why(int kind, int m, int place, int w) {
        if (kind < 0 || kind > 6 || !mem(m)) return BAD;
        if ((kind == 2 || kind == 3) && !wd(w)) return BAD;
        if (kind == 6 && (w < 0 || w >= texts.size())) return BAD;
        if (amendment(kind) && up != null && (place < 0 || place >= up.rows.size() + (kind == 2 ? 1 : 0))) return BAD;
        Person p = people.get(m);
        if (up == null && kind != 6) return 1;
        if (minute == 100) return 2;
        if (!p.there) return 3;
        boolean base = kind == 0 || kind == 6;
        if (pile.isEmpty() ? !base : base) return 4;
        if (!pile.isEmpty()) {
            Mot top = pile.get(pile.size() - 1);
            if (rank(kind, p) <= rank(top.kind, top.mover)) return 5;
        }
        if (eval(rule, 1, kind, p.party, pile.size(), 0, 0) == 0) return 6;
        return pile.size() == 8 ? 7 : 0;
    }
    Mot make(int kind, Person mover, int place, int w) {
        Mot t = new Mot(); t.kind = kind; t.mover = mover;
        if (kind == 2 || kind == 3 || kind == 6) t.word = w;
        if (amendment(kind)) { if (place == up.rows.size()) t.behindAll = true; else t.at = up.rows.get(place); }
        return t;
    }
    int act(int kind, int m, int place, int w) {
        int r = why(kind, m, place, w);
        if (r == BAD) return BAD;
        if (r > 0) return -20 - r;
        pile.add(make(kind, people.get(m), place, w));
        minute++;
        return pile.size();
    }
    /** What the rows would be behind an amendment, or null where it does nothing. */
    static List<Sec> behind(List<Sec> rows, Mot t) {
        if (t.gone || t.kind == 2 && rows.size() == 10) return null;
        List<Sec> next = new ArrayList<>(rows);
        int i = t.behindAll ? rows.size() : rows.indexOf(t.at);
        if (t.kind == 1) next.remove(i); else if (t.kind == 2) next.add(i, new Sec(t.word)); else { next.set(i, new Sec(t.word)); }
        return next;
    }
    int choice(Person p, Mot t, List<Sec> rows) {
        if (!p.there || p.mate != null) return 0;
        if (p.asked != 0) return p.asked;
        int w = rows == null ? 0 : sum(rows, p);
        switch (t.kind) {
            case 0: return w > 0 ? 1 : w < 0 ? 2 : 0;
            case 4: return w < 0 ? 1 : w > 0 ? 2 : 0;
            case 5: return w == 0 ? 1 : 2;
            case 6: return p.party == t.mover.party ? 1 : 2;
            default:
                List<Sec> next = behind(rows, t);
                int d = next == null ? 0 : sum(next, p) - w;
                return d > 0 ? 1 : d < 0 ? 2 : 0;
        }
    }
    int[] tally(Mot t, List<Sec> rows) {
        int[] n = new int[3];
        for (Person p : people) n[choice(p, t, rows)]++;
        return n;
    }
    /** Does an amendment to the rows; the others that name a SECTION that goes are GONE. */
    static boolean done(List<Sec> rows, Mot t, List<Mot> others) {
        List<Sec> next = behind(rows, t);
        if (next == null) return false;
        if (t.kind == 3) { t.at.word = t.word; return true; }
        if (t.kind == 1) for (Mot o : others) if (o != t && o.at == t.at) { o.at = null; o.gone = true; }
        rows.clear(); rows.addAll(next);
        return true;
    }
    int vote() {
        if (pile.isEmpty()) return -21;
        if (minute == 100) return -22;
        Mot t = pile.get(pile.size() - 1);
        if (eval(rule, 3, t.kind, t.mover.party, pile.size(), 0, 0) == 0) return -23;
        int[] n = tally(t, up == null ? null : up.rows);
        boolean carried = eval(rule, 2, t.kind, t.mover.party, pile.size(), n[1], n[2]) != 0;
        lastYes = n[1]; lastNo = n[2]; lastKind = t.kind; lastCarried = carried ? 1 : 0;
        pile.remove(pile.size() - 1);
        int to = t.kind == 0 ? (carried ? 3 : 4) : !carried ? 2 : t.kind == 4 ? 4 : t.kind == 5 ? 0 : 2;
        if (to != 2) {
            up.how = to;
            if (to == 0) up.names.clear();
            up = null; pile.clear(); told.clear();
        } else if (carried && t.kind == 6) rule = t.word;
        else if (carried && done(up.rows, t, pile)) told.clear();
        minute++;
        return lastCarried;
    }
    int voted(int what) { return what == 0 ? lastYes : what == 1 ? lastNo : what == 2 ? lastKind : what == 3 ? lastCarried : BAD; }
    int would(int m) {
        if (!mem(m)) return BAD;
        if (pile.isEmpty()) return NONE;
        return choice(people.get(m), pile.get(pile.size() - 1), up == null ? null : up.rows);
    }
    int motion(int i, int what) {
        if (i < 0 || i >= pile.size() || what < 0 || what > 4) return -100000;
        Mot t = pile.get(i);
        switch (what) {
            case 0: return t.kind;
            case 1: return people.indexOf(t.mover);
            case 2: return t.behindAll ? up.rows.size() : t.at == null ? NONE : up.rows.indexOf(t.at);
            case 3: return t.word;
            default: return rank(t.kind, t.mover);
        }
    }
    int yield_() { if (pile.isEmpty()) return STATE; pile.remove(pile.size() - 1); return pile.size(); }
    int day() { if (day == 999) return FULL; minute = 0; return ++day; }
    int tell(int kind, int place, int w) {
        if (!amendment(kind) || kind != 1 && !wd(w)) return BAD;
        if (up == null) return STATE;
        if (place < 0 || place >= up.rows.size() + (kind == 2 ? 1 : 0)) return BAD;
        if (told.size() == 5) return FULL;
        told.add(make(kind, null, place, w));
        return told.size();
    }
    long foresee(int order, int m) {
        if (!mem(m) || up == null || order < 0) return NO;
        List<Integer> digits = new ArrayList<>();
        int rest = order;
        for (int i = 0; i < told.size(); i++) { digits.add(rest % 6); rest /= 6; }
        Set<Integer> all = new HashSet<>(digits);
        if (rest != 0 || all.size() != told.size()) return NO;
        for (int d : digits) if (d >= told.size()) return NO;
        List<Sec> rows = new ArrayList<>();
        List<Mot> copies = new ArrayList<>();
        for (Mot t : told) copies.add(t.copy());
        for (Sec x : up.rows) {
            Sec y = new Sec(x.word);
            rows.add(y);
            for (Mot t : copies) if (t.at == x) t.at = y;
        }
        for (int d : digits) {
            Mot t = copies.get(d);
            int[] n = tally(t, rows);
            if (eval(rule, 2, t.kind, 0, 0, n[1], n[2]) != 0) done(rows, t, copies);
        }
        return sum(rows, people.get(m));
    }
    int best(int m) {
        if (!mem(m)) return BAD;
        if (up == null) return STATE;
        int best = -1, end = 1;
        long most = NO;
        for (int i = 0; i < told.size(); i++) end *= 6;
        for (int order = 0; order < end; order++) {
            long w = foresee(order, m);
            if (w != NO && w > most) { most = w; best = order; }
        }
        return best;
    }
    /** All rows that both have, the longest and then least one kept. */
    List<Integer> row(int a, int b) {
        List<Integer> x = new ArrayList<>(), y = new ArrayList<>(), best = new ArrayList<>();
        for (Sec t : laws.get(a).rows) x.add(t.word);
        for (Sec t : laws.get(b).rows) y.add(t.word);
        for (int bits = 0; bits < 1 << x.size(); bits++) {
            List<Integer> r = new ArrayList<>();
            for (int i = 0; i < x.size(); i++) if ((bits >> i & 1) != 0) r.add(x.get(i));
            if (r.size() < best.size()) continue;
            int at = 0;
            for (int w : y) if (at < r.size() && r.get(at) == w) at++;
            if (at < r.size()) continue;
            if (r.size() > best.size() || less(r, best)) best = r;
        }
        return best;
    }
    static boolean less(List<Integer> p, List<Integer> q) {
        for (int i = 0; i < p.size(); i++) if (!p.get(i).equals(q.get(i))) return p.get(i) < q.get(i);
        return false;
    }
    int confer(int a, int b) { return !law(a) || !law(b) || a == b ? BAD : row(a, b).size(); }
    int conferred(int a, int b, int i) {
        if (!law(a) || !law(b) || a == b) return BAD;
        List<Integer> r = row(a, b);
        return i < 0 || i >= r.size() ? NONE : r.get(i);
    }
    int count(int what) {
        switch (what) {
            case 0: return people.size();
            case 1: return (int) people.stream().filter(p -> p.there).count();
            case 2: return laws.size();
            case 3: return texts.size();
            case 4: return pile.size();
            case 5: return tape.length();
            case 6: return day;
            case 7: return minute;
            case 8: return laws.indexOf(up);
            case 9: return rule;
            case 10: return told.size();
            case 11: return calendar.size();
            default: return BAD;
        }
    }
    int tray(int t, int n) {
        if (t < 0 || t > 3 || n > 40) return BAD;
        if (n < -1) return -14;
        trays[t] = n == -1 ? null : new byte[n];
        return 1;
    }
    int cell(int t, int i, int v) {
        if (t < 0 || t > 3) return BAD;
        if (trays[t] == null) return -11;
        if (i < 0 || i >= trays[t].length) return -12;
        trays[t][i] = (byte) v;
        return 1;
    }
    int made(int t, int from) {
        if (t < 0 || t > 3) return BAD;
        if (trays[t] == null) return -11;
        if (from < 0 || (long) from + 4 > trays[t].length) return -12;
        byte[] b = trays[t];
        return act(b[from], b[from + 1], b[from + 2], b[from + 3]);
    }
    static final int[] ABOVE = {-1, 0, 1, 1, 0, 0, 0};
    int taken(int i, int k) {
        if (k < 0 || k > 6) return BAD;
        if (i < 0 || i >= pile.size()) return -11;
        for (int x = pile.get(i).kind; x >= 0; x = ABOVE[x]) if (x == k) return people.indexOf(pile.get(i).mover);
        return -13;
    }
}
