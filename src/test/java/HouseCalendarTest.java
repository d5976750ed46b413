/** For each promise: ordinary calls, the edges that the document names, and wrong numbers. */
public final class HouseCalendarTest {
    static final int NONE = HouseCalendar.NONE, BAD = HouseCalendar.BAD, STATE = HouseCalendar.STATE, FULL = HouseCalendar.FULL;
    static final long NO = HouseCalendar.NO;
    static final int MOTION = 0, AMEND = 1, PUT = 2, REPLACE = 3, TABLE = 4, BACK = 5, RULE = 6;
    static final int LOW = Integer.MIN_VALUE, HIGH = Integer.MAX_VALUE;
    static final String DEFAULT = "rank kind ; may 1 ; pass no < yes ; quorum members < there + there ;";

    static int wrong = 0;
    static String at = "";

    static void due(String call, long got, long want) {
        if (got == want) return;
        wrong++;
        System.out.println(at + ": " + call + " answered " + got + ", due is " + want);
    }

    // ---- helpers

    static HouseCalendar house(int members) {
        HouseCalendar x = new HouseCalendar();
        for (int i = 0; i < members; i++) x.member(i % 4);
        return x;
    }

    static int draft(HouseCalendar x, int... words) {
        int b = x.bill();
        for (int w : words) x.section(b, w);
        return b;
    }

    static HouseCalendar withUp(int members, int... words) {
        HouseCalendar x = house(members);
        x.report(draft(x, words));
        x.call();
        return x;
    }

    static void write(HouseCalendar x, String text) {
        for (int i = 0; i < text.length(); i += 8) {
            int n = Math.min(8, text.length() - i);
            long v = 0;
            for (int j = n - 1; j >= 0; j--) v = v << 8 | text.charAt(i + j);
            x.feed(n, v);
        }
    }

    static int read(HouseCalendar x, String text) {
        write(x, text);
        return x.text();
    }

    /** Makes a TEXT THE RULE, with all asked for it. */
    static void ruleBy(HouseCalendar x, String text) {
        int t = read(x, text);
        for (int i = 0; i < x.count(0); i++) x.ask(i, 1);
        due("act(RULE)", x.act(RULE, 0, 0, t), 1);
        due("vote() on RULE", x.vote(), 1);
        due("THE RULE", x.count(9), t);
        for (int i = 0; i < x.count(0); i++) x.ask(i, 0);
    }

    static void askAll(HouseCalendar x, int how) {
        for (int i = 0; i < x.count(0); i++) x.ask(i, how);
    }

    static void words(HouseCalendar x, int bill, int... words) {
        due("SECTIONS of " + bill, x.billTold(bill, 1), words.length);
        for (int i = 0; i < words.length; i++) due("word(" + bill + ", " + i + ")", x.word(bill, i), words[i]);
        due("word behind all", x.word(bill, words.length), NONE);
    }

    /** What a number, written as an E, comes to. */
    static long sum(String e) {
        HouseCalendar x = house(3);
        x.comes(1, false);
        int t = read(x, "rank " + e + ";may 1;pass 1;quorum 1;");
        return t < 0 ? t : x.says(t, 0, 4, 2, 7, 9);
    }

    // ---- the promises

    static void p01() {
        due("NONE", NONE, -1);
        due("BAD", BAD, -2);
        due("STATE", STATE, -3);
        due("FULL", FULL, -4);
        due("NO", NO, -4611686018427387904L);
        HouseCalendar x = new HouseCalendar();
        long[] want = {0, 0, 0, 1, 0, 0, 0, 0, NONE, 0, 0, 0};
        for (int i = 0; i < want.length; i++) due("count(" + i + ")", x.count(i), want[i]);
        for (int k = 0; k < 7; k++) {
            due("rank", x.says(0, 0, k, 1, 0, 0), k);
            due("may", x.says(0, 1, k, 1, 0, 0), 1);
        }
        due("pass 3:2", x.says(0, 2, 0, 0, 3, 2), 1);
        due("pass 2:2", x.says(0, 2, 0, 0, 2, 2), 0);
        due("quorum of none", x.says(0, 3, 0, 0, 0, 0), 0);
        for (int t = 0; t < 4; t++) due("cell of a missing TRAY", x.cell(t, 0, 0), -11);
    }

    static void p02() {
        HouseCalendar x = new HouseCalendar();
        for (int bad : new int[]{-1, 4, LOW, HIGH}) due("member(" + bad + ")", x.member(bad), BAD);
        for (int i = 0; i < 15; i++) due("member", x.member(i % 4), i);
        due("member", x.member(0), FULL);
        due("member", x.member(4), BAD);
        due("count", x.count(0), 15);
        for (int i = 0; i < 15; i++) due("PARTY", x.memberTold(i, 0), i % 4);
    }

    static void p03() {
        HouseCalendar x = house(2);
        due("like", x.like(0, 1, 9), 0);
        due("like", x.like(0, 1, -9), 9);
        due("like", x.like(0, 1, 0), -9);
        due("like", x.like(0, 60, 5), 0);
        due("another's", x.like(1, 60, 1), 0);
        due("again", x.like(0, 60, 6), 5);
        for (int m : new int[]{-1, 2, 15, LOW, HIGH}) due("like m", x.like(m, 1, 1), -100);
        for (int w : new int[]{0, 61, -1, LOW, HIGH}) due("like w", x.like(0, w, 1), -100);
        for (int l : new int[]{-10, 10, LOW, HIGH}) due("like l", x.like(0, 60, l), -100);
        due("unchanged", x.like(0, 60, 0), 6);
    }

    static void p04() {
        HouseCalendar x = house(2);
        due("comes", x.comes(0, true), 0);
        due("comes", x.comes(0, false), 1);
        due("comes", x.comes(0, false), 0);
        due("there", x.count(1), 1);
        due("told", x.memberTold(0, 1), 0);
        due("comes", x.comes(0, true), 1);
        due("there", x.count(1), 2);
        for (int m : new int[]{-1, 2, LOW, HIGH}) due("comes", x.comes(m, false), BAD);
    }

    static void p05() {
        HouseCalendar x = house(4);
        for (int m : new int[]{-1, 4, LOW, HIGH}) {
            due("pair", x.pair(0, m), BAD);
            due("pair", x.pair(m, 0), BAD);
        }
        due("pair", x.pair(1, 1), BAD);
        due("pair", x.pair(0, 3), 1);
        due("of 0", x.memberTold(0, 2), 3);
        due("of 3", x.memberTold(3, 2), 0);
        due("pair", x.pair(0, 0), BAD);
        due("pair", x.pair(0, 1), STATE);
        due("pair", x.pair(1, 3), STATE);
        due("pair", x.pair(3, 0), STATE);
        due("pair", x.pair(2, 1), 1);
    }

    static void p06() {
        HouseCalendar x = house(3);
        due("part", x.part(0), STATE);
        x.pair(0, 2);
        due("part", x.part(1), STATE);
        due("part", x.part(2), 0);
        due("of 0", x.memberTold(0, 2), NONE);
        due("of 2", x.memberTold(2, 2), NONE);
        due("part", x.part(0), STATE);
        for (int m : new int[]{-1, 3, LOW, HIGH}) due("part", x.part(m), BAD);
        due("pair again", x.pair(1, 2), 1);
        due("part", x.part(1), 2);
    }

    static void p07() {
        HouseCalendar x = house(2);
        due("ask", x.ask(0, 1), 0);
        due("ask", x.ask(0, 2), 1);
        due("ask", x.ask(0, 0), 2);
        due("ask", x.ask(0, 0), 0);
        for (int how : new int[]{-1, 3, LOW, HIGH}) due("ask", x.ask(0, how), BAD);
        for (int m : new int[]{-1, 2, LOW, HIGH}) due("ask", x.ask(m, 1), BAD);
        due("unchanged", x.memberTold(0, 3), 0);
    }

    static void p08() {
        HouseCalendar x = house(4);
        x.pair(1, 3);
        x.ask(3, 2);
        x.comes(3, false);
        long[] want = {3, 0, 1, 2};
        for (int i = 0; i < 4; i++) due("memberTold(3, " + i + ")", x.memberTold(3, i), want[i]);
        long[] first = {0, 1, NONE, 0};
        for (int i = 0; i < 4; i++) due("memberTold(0, " + i + ")", x.memberTold(0, i), first[i]);
        for (int what : new int[]{-1, 4, LOW, HIGH}) due("what", x.memberTold(0, what), BAD);
        for (int m : new int[]{-1, 4, LOW, HIGH}) due("member", x.memberTold(m, 0), BAD);
    }

    static void p09() {
        HouseCalendar x = house(0);
        for (int i = 0; i < 8; i++) {
            due("bill", x.bill(), i);
            due("SECTIONS", x.billTold(i, 1), 0);
        }
        due("bill", x.bill(), FULL);
        due("count", x.count(2), 8);
    }

    static void p10() {
        HouseCalendar x = house(1);
        int b = x.bill();
        for (int w : new int[]{0, 61, LOW, HIGH}) due("word", x.section(b, w), BAD);
        for (int n : new int[]{-1, 1, LOW, HIGH}) due("bill", x.section(n, 1), BAD);
        for (int i = 1; i <= 10; i++) due("section", x.section(b, 61 - i), i);
        due("section", x.section(b, 1), FULL);
        due("section", x.section(b, 0), BAD);
        words(x, b, 60, 59, 58, 57, 56, 55, 54, 53, 52, 51);
        x.report(b);
        due("section", x.section(b, 1), STATE);
        due("section", x.section(b, 61), BAD);
        x.call();
        due("section", x.section(b, 1), STATE);
    }

    static void p11() {
        HouseCalendar x = house(5);
        int a = draft(x, 1), b = draft(x, 2, 3);
        x.sign(b, 4);
        x.sign(b, 1);
        x.report(a);
        x.report(b);
        long[] want = {1, 2, 1, 2};
        for (int i = 0; i < 4; i++) due("billTold(b, " + i + ")", x.billTold(b, i), want[i]);
        due("place of a", x.billTold(a, 2), 0);
        x.call();
        due("a is UP", x.billTold(a, 0), 2);
        due("place of a", x.billTold(a, 2), NONE);
        due("place of b", x.billTold(b, 2), 0);
        for (int what : new int[]{-1, 4, LOW, HIGH}) due("what", x.billTold(b, what), BAD);
        for (int n : new int[]{-1, 2, LOW, HIGH}) due("bill", x.billTold(n, 0), BAD);
    }

    static void p12() {
        HouseCalendar x = house(0);
        int b = draft(x, 7, 60);
        due("word", x.word(b, 0), 7);
        due("word", x.word(b, 1), 60);
        for (int i : new int[]{-1, 2, 10, LOW, HIGH}) due("word", x.word(b, i), NONE);
        for (int n : new int[]{-1, 1, LOW, HIGH}) {
            due("bill", x.word(n, 0), BAD);
            due("bill and section", x.word(n, -1), BAD);
        }
    }

    static void p13() {
        HouseCalendar x = house(2);
        int b = draft(x, 7, 7, 8, 9);
        x.like(0, 7, 9);
        x.like(0, 8, -4);
        x.like(1, 9, -9);
        due("worth", x.worth(b, 0), 14);
        due("worth", x.worth(b, 1), -9);
        due("worth of nothing", x.worth(x.bill(), 0), 0);
        for (int n : new int[]{-1, 2, LOW, HIGH}) {
            due("bill", x.worth(n, 0), NO);
            due("member", x.worth(b, n), NO);
        }
        x.like(1, 9, 9);
        due("worth", x.worth(b, 1), 9);
    }

    static void p14() {
        HouseCalendar x = house(3);
        for (int i = 0; i < 8; i++) x.bill();
        due("report", x.report(5), 0);
        due("report", x.report(5), STATE);
        due("report", x.report(2), 1);
        for (int n : new int[]{-1, 8, LOW, HIGH}) due("report", x.report(n), BAD);
        due("state", x.billTold(5, 0), 1);
        for (int i = 0; i < 8; i++) if (i != 5 && i != 2) x.report(i);
        due("count", x.count(11), 8);
        due("call", x.call(), 5);
        due("report of one that is UP", x.report(5), STATE);
        due("place of 2", x.billTold(2, 2), 0);
        due("count", x.count(11), 7);
    }

    static void p15() {
        HouseCalendar x = house(4);
        int a = draft(x, 1), b = draft(x, 1);
        for (int n : new int[]{-1, 4, LOW, HIGH}) due("member", x.sign(a, n), BAD);
        for (int n : new int[]{-1, 2, LOW, HIGH}) due("bill", x.sign(n, 0), BAD);
        due("sign", x.sign(a, 0), 1);
        due("sign", x.sign(a, 0), STATE);
        x.comes(3, false);
        due("one that is not THERE", x.sign(a, 3), 2);
        due("half is not enough", x.billTold(a, 0), 0);
        x.report(b);
        due("sign", x.sign(a, 2), 3);
        due("ON THE CALENDAR", x.billTold(a, 0), 1);
        due("behind all", x.billTold(a, 2), 1);
        due("NAMES", x.billTold(a, 3), 3);
        due("sign", x.sign(a, 1), STATE);
        due("sign", x.sign(b, 1), STATE);
        HouseCalendar y = house(15);
        int c = y.bill();
        for (int i = 0; i < 8; i++) due("sign", y.sign(c, 14 - i), i + 1);
        due("8 of 15", y.billTold(c, 0), 1);
        HouseCalendar z = house(1);
        z.bill();
        due("all alone", z.sign(0, 0), 1);
        due("ON THE CALENDAR", z.billTold(0, 0), 1);
    }

    static void p16() {
        HouseCalendar x = house(1);
        due("call", x.call(), STATE);
        int a = draft(x, 1), b = draft(x, 2);
        x.report(b);
        x.report(a);
        due("call", x.call(), b);
        due("UP", x.count(8), b);
        due("call", x.call(), STATE);
        due("CALENDAR", x.count(11), 1);
        x.act(MOTION, 0, 0, 0);
        x.ask(0, 1);
        x.vote();
        due("call", x.call(), a);
        x.act(MOTION, 0, 0, 0);
        x.vote();
        due("call", x.call(), STATE);
        due("UP", x.count(8), NONE);
    }

    static void p17() {
        HouseCalendar x = new HouseCalendar();
        for (int n : new int[]{0, -1, 9, LOW, HIGH}) due("feed", x.feed(n, 0), BAD);
        due("feed", x.feed(1, -1), 1);
        for (int i = 1; i <= 24; i++) due("feed", x.feed(8, 0x2020202020202020L), 1 + 8 * i);
        due("feed", x.feed(8, 0), FULL);
        due("feed", x.feed(0, 0), BAD);
        due("feed", x.feed(7, 0x20202020202020L), 200);
        due("feed", x.feed(1, 0), FULL);
        due("count", x.count(5), 200);
        due("the first byte is no TOKEN", x.text(), -100);
        due("count", x.count(5), 0);
        // the lowest byte first, and no more than n of them
        x.feed(4, 0x1234_6B6E_6172L);
        due("count", x.count(5), 4);
        write(x, " 1;may 2;pass 3;quorum 4;");
        due("text", x.text(), 1);
        due("says", x.says(1, 3, 0, 0, 0, 0), 4);
    }

    static void fault(String text, int place) {
        due("text of " + text, read(new HouseCalendar(), text), -100 - place);
    }

    static void p18() {
        HouseCalendar x = new HouseCalendar();
        due("text", x.text(), -100);
        for (int i = 1; i < 8; i++) {
            due("a FAULT", read(x, "rank"), -104);
            due("text", read(x, " \nrank 1 ; may " + i + ";pass 1;quorum 1 ;\n "), i);
            due("TAPE", x.count(5), 0);
            due("TEXTS", x.count(3), i + 1);
            due("says", x.says(i, 1, 0, 0, 0, 0), i);
        }
        write(x, "?");
        due("text", x.text(), FULL);
        due("TAPE stays", x.count(5), 1);
        fault("?", 0);
        fault("rank 1;may", 10);
        fault("rank 1;may  ", 12);
        fault("may 1;", 0);
        fault("rank 1 may 1;", 7);
        fault("rank 1;may 1;pass 1;quorum 1", 28);
        fault("rank 1;may 1;pass 1;quorum 1;;", 29);
        fault("rank 1;may 1;pass 1;quorum 1; ?", 30);
        fault("rank 1;pass 1;", 7);
        fault("rank ;", 5);
        fault("rank kin;", 5);
        fault("rank kinds;", 5);
        fault("rank kindz;", 5);
        fault("rank Kind;", 5);
        fault("rank 12345;", 5);
        fault("rank 00001;", 5);
        fault("rank 1 2;", 7);
        fault("rank 1+;", 7);
        fault("rank 1+*2;", 7);
        fault("rank 1<2<3;", 8);
        fault("rank 1=2<3;", 8);
        fault("rank 1 not 2;", 7);
        fault("rank 1+not 2;", 7);
        fault("rank -not 2;", 6);
        fault("rank 1 or or 2;", 10);
        fault("rank 1 and ;", 11);
        fault("rank ();", 6);
        fault("rank (1;", 7);
        fault("rank 1);", 6);
        fault("rank 1\t;", 6);
        fault("rank 1\u00e9;", 6);
        fault("rank rank;", 5);
        fault("rank kind kind;", 10);
        // a WORD has 7 letters at most: what follows is another one
        fault("rank membersx;", 12);
        fault("rank memberskind;", 12);
        due("NAME and KEY", read(new HouseCalendar(), "rank membersor 1;may 1;pass 1;quorum 1;"), 1);
        due("NUMBER and KEY", read(new HouseCalendar(), "rank1or2;may1;pass1;quorum1;"), 1);
        nesting();
        afterFaults();
    }

    /** A FAULT leaves nothing behind, however much was read ahead of it. */
    static void afterFaults() {
        HouseCalendar x = house(1);
        StringBuilder ones = new StringBuilder("rank ((((1");
        while (ones.length() < 190) ones.append("+1");
        for (int i = 0; i < 5; i++) due("a FAULT", read(x, ones + ";"), -100 - ones.length());
        String sum = ones.substring(0, 150).replace("((((", "");
        due("text", read(x, sum + ";may 2;pass 3;quorum (((((4)))));"), 1);
        due("all of it", x.says(1, 0, 0, 0, 0, 0), (sum.length() - 4) / 2);
        due("the last part", x.says(1, 3, 0, 0, 0, 0), 4);
    }

    static void nesting() {
        fault("rank ((((((1))))));", 10);
        fault("rank -------1;", 10);
        fault("rank not not not not not not 1;", 25);
        fault("rank not (not (-(1)));", 16);
        fault("rank not (-(-(-1)));", 13);
        due("( not - together", sum("not (not (-1))"), 1);
        due("5 open", sum("(((((1)))))"), 1);
        due("5 open, then ended", sum("(((((1)))))+(((((2)))))*-----3"), -5);
        due("not ends", sum("(not not not not 1) + (not not not not 0)"), 1);
        due("not belongs to all of a comparison", sum("not not not not not 1 < (2)"), -100 - 29);
        due("not ends ahead of and", sum("not not not not not 1 and (2)"), 0);
        due("a - ends with its ONE", sum("-----1 * -----1"), 1);
        due("a - between is not counted", sum("(((((1-2)))))"), -1);
    }

    static void p19() {
        due("rank", sum("kind"), 4);
        due("depth", sum("depth"), 0);
        due("minute", sum("minute"), 0);
        due("party", sum("party"), 2);
        due("there", sum("there"), 2);
        due("members", sum("members"), 3);
        due("yes", sum("yes"), 7);
        due("no", sum("no"), 9);
        due("order", sum("2 + 3 * 4 - 1"), 13);
        due("left first", sum("10 - 3 - 2"), 5);
        due("minus", sum("--2 * -3"), -6);
        due("1 - -1", sum("1 - -1"), 2);
        due("parts", sum("(2 + 3) * 4"), 20);
        due("wraps", sum("9999*9999*9999"), 9999 * 9999 * 9999);
        due("as it is", sum("7"), 7);
        due("in ( )", sum("(7)"), 7);
        due("7 or 0", sum("7 or 0"), 1);
        due("0 or 0", sum("0 or 0"), 0);
        due("7 and 5", sum("7 and 5"), 1);
        due("7 and 0", sum("7 and 0"), 0);
        due("and ahead of or", sum("1 or 0 and 0"), 1);
        due("not 5", sum("not 5"), 0);
        due("not 0", sum("not 0"), 1);
        due("not of a comparison", sum("not 1 < 0"), 1);
        due("not ahead of and", sum("not 0 and 0"), 0);
        due("3 < 3", sum("3 < 3"), 0);
        due("-3 < 3", sum("-3 < 3"), 1);
        due("3 = 3", sum("3 = 2 + 1"), 1);
        due("3 = 4", sum("3 = 4"), 0);
        due("below 0 is true", sum("not -1"), 0);
        due("0000", sum("0009"), 9);
        HouseCalendar x = withUp(2, 1);
        int t = read(x, "rank minute*10+depth;may kind;pass yes-no;quorum party;");
        x.act(MOTION, 0, 0, 0);
        due("now", x.says(t, 0, 0, 0, 0, 0), 11);
        due("may", x.says(t, 1, 6, 0, 0, 0), 6);
        due("pass", x.says(t, 2, 0, 0, 15, 0), 15);
        due("pass", x.says(t, 2, 0, 0, 0, 15), -15);
        due("quorum", x.says(t, 3, 0, 3, 0, 0), 3);
        for (int n : new int[]{-1, 2, LOW, HIGH}) due("text", x.says(n, 0, 0, 0, 0, 0), NO);
        for (int n : new int[]{-1, 4, LOW, HIGH}) due("part", x.says(0, n, 0, 0, 0, 0), NO);
        for (int n : new int[]{-1, 7, LOW, HIGH}) due("kind", x.says(0, 0, n, 0, 0, 0), NO);
        for (int n : new int[]{-1, 4, LOW, HIGH}) due("party", x.says(0, 0, 0, n, 0, 0), NO);
        for (int n : new int[]{-1, 16, LOW, HIGH}) {
            due("yes", x.says(0, 0, 0, 0, n, 0), NO);
            due("no", x.says(0, 0, 0, 0, 0, n), NO);
        }
    }

    /** act() and why() with the same numbers. */
    static void moved(HouseCalendar x, int kind, int member, int place, int word, int want) {
        String args = "(" + kind + ", " + member + ", " + place + ", " + word + ")";
        due("why" + args, x.why(kind, member, place, word), want > 0 ? 0 : want == BAD ? BAD : -20 - want);
        due("act" + args, x.act(kind, member, place, word), want);
    }

    static void p20() {
        HouseCalendar x = house(2);
        for (int k = 0; k < 6; k++) moved(x, k, 0, 0, 1, -21);
        moved(x, AMEND, 0, -5, 0, -21);
        moved(x, REPLACE, 0, 0, 0, BAD);
        moved(x, PUT, 0, 0, 61, BAD);
        for (int n : new int[]{-1, 1, LOW, HIGH}) moved(x, RULE, 0, 0, n, BAD);
        for (int n : new int[]{-1, 7, LOW, HIGH}) moved(x, n, 0, 0, 1, BAD);
        for (int n : new int[]{-1, 2, LOW, HIGH}) moved(x, MOTION, n, 0, 1, BAD);
        moved(x, RULE, 1, LOW, 0, 1);
        due("minute", x.count(7), 1);
        moved(x, MOTION, 1, 0, 0, -21);
        x.yield();
        x.report(draft(x, 1, 2));
        x.call();
        moved(x, AMEND, 0, 0, 0, -24);
        moved(x, BACK, 0, 0, 0, -24);
        moved(x, MOTION, 0, HIGH, LOW, 1);
        moved(x, MOTION, 0, 0, 0, -24);
        moved(x, RULE, 0, 0, 0, -24);
        for (int n : new int[]{-1, 2, LOW, HIGH}) {
            moved(x, AMEND, 0, n, 1, BAD);
            moved(x, REPLACE, 0, n, 1, BAD);
        }
        for (int n : new int[]{-1, 3, LOW, HIGH}) moved(x, PUT, 0, n, 1, BAD);
        for (int n : new int[]{0, 61, LOW, HIGH}) moved(x, PUT, 0, 0, n, BAD);
        moved(x, AMEND, 0, 1, HIGH, 2);
        moved(x, PUT, 1, 2, 60, 3);
        moved(x, PUT, 1, 2, 60, -25);
        moved(x, AMEND, 1, 0, 0, -25);
        moved(x, TABLE, 1, LOW, LOW, 4);
        due("minute", x.count(7), 5);
    }

    static void p21() {
        // the least WHY of those that hold, one taken away after another
        HouseCalendar x = house(2);
        ruleBy(x, "rank 0-depth;may kind=0;pass 1;quorum 1;");
        x.report(draft(x, 1));
        due("1", x.why(MOTION, 0, 0, 0), 1);
        due("RULE without a BILL", x.why(RULE, 0, 0, 0), 6);
        x.call();
        x.act(MOTION, 0, 0, 0);
        for (int i = 0; i < 97; i++) {
            x.yield();
            x.act(MOTION, 0, 0, 0);
        }
        due("minutes", x.count(7), 100);
        x.comes(1, false);
        due("2", x.why(RULE, 1, 0, 0), 2);
        due("2", x.act(AMEND, 1, 0, 0), -22);
        due("BAD ahead", x.why(AMEND, 1, 1, 0), BAD);
        due("2", x.vote(), -22);
        x.day();
        due("3", x.why(RULE, 1, 0, 0), 3);
        x.comes(1, true);
        due("4", x.why(RULE, 1, 0, 0), 4);
        due("5", x.why(AMEND, 1, 0, 0), 5);
        x.yield();
        due("4", x.why(AMEND, 1, 0, 0), 4);
        due("6", x.why(RULE, 1, 0, 0), 6);
        due("0", x.why(MOTION, 1, 0, 0), 0);
        due("why takes no minute", x.count(7), 0);
        full();
    }

    static void full() {
        HouseCalendar x = house(4);
        for (int i = 0; i < 4; i++) x.member(i);
        // the mover's PARTY and the KIND make 8 ranks, one above the other
        ruleBy(x, "rank 8*kind+party;may not kind=5;pass 1;quorum 1;");
        x.report(draft(x, 1));
        x.call();
        moved(x, MOTION, 3, 0, 0, 1);
        moved(x, AMEND, 0, 0, 0, 2);
        moved(x, AMEND, 0, 0, 0, -25);
        moved(x, AMEND, 1, 0, 0, 3);
        moved(x, AMEND, 2, 0, 0, 4);
        moved(x, AMEND, 3, 0, 0, 5);
        moved(x, PUT, 0, 0, 5, 6);
        moved(x, REPLACE, 0, 0, 5, 7);
        moved(x, TABLE, 0, 0, 5, 8);
        moved(x, TABLE, 1, 0, 5, -27);
        moved(x, BACK, 1, 0, 5, -26);
        moved(x, AMEND, 1, 0, 5, -25);
        due("THE PILE", x.count(4), 8);
    }

    static void p22() {
        HouseCalendar x = house(3);
        due("vote", x.vote(), -21);
        x.report(draft(x, 1));
        x.call();
        moved(x, MOTION, 0, 0, 0, 1);
        x.comes(0, false);
        x.comes(1, false);
        due("no quorum", x.vote(), -23);
        due("minute", x.count(7), 1);
        due("voted", x.voted(2), NONE);
        x.comes(1, true);
        due("nobody", x.vote(), 0);
        due("minute", x.count(7), 2);
        due("ENDED", x.billTold(0, 0), 4);
        due("UP", x.count(8), NONE);
        outcomes();
        likes();
        amended();
        gone();
        fullBill();
        ruled();
    }

    static void outcomes() {
        int[][] want = {{MOTION, 3, 4}, {AMEND, 2, 2}, {PUT, 2, 2}, {REPLACE, 2, 2}, {TABLE, 4, 2}, {BACK, 0, 2}};
        for (int[] w : want) {
            for (int how = 1; how <= 2; how++) {
                HouseCalendar x = withUp(3, 1, 2);
                moved(x, MOTION, 0, 0, 0, 1);
                if (w[0] != MOTION) moved(x, w[0], 0, 0, 9, 2);
                askAll(x, how);
                due("vote on " + w[0], x.vote(), 2 - how);
                due("BILL behind " + w[0], x.billTold(0, 0), w[how]);
                due("PILE behind " + w[0], x.count(4), w[how] == 2 ? 1 : 0);
                due("UP behind " + w[0], x.count(8), w[how] == 2 ? 0 : NONE);
            }
        }
        HouseCalendar x = house(3);
        draft(x, 1);
        x.sign(0, 0);
        x.sign(0, 1);
        x.call();
        due("NAMES", x.billTold(0, 3), 2);
        moved(x, MOTION, 0, 0, 0, 1);
        moved(x, BACK, 0, 0, 0, 2);
        due("BACK of what is worth 0", x.vote(), 1);
        due("NAMES are gone", x.billTold(0, 3), 0);
        due("section", x.section(0, 5), 2);
        due("sign", x.sign(0, 1), 1);
        due("report", x.report(0), 0);
    }

    static void voters(HouseCalendar x, int... want) {
        for (int i = 0; i < want.length; i++) due("would(" + i + ")", x.would(i), want[i]);
    }

    static void likes() {
        HouseCalendar x = withUp(7, 1, 2);
        x.like(0, 1, 1);
        x.like(1, 1, -1);
        x.like(2, 1, 1);
        x.like(2, 2, -1);
        x.pair(3, 4);
        x.ask(3, 1);
        x.comes(5, false);
        x.ask(5, 1);
        x.ask(6, 2);
        moved(x, MOTION, 0, 0, 0, 1);
        voters(x, 1, 2, 0, 0, 0, 0, 2);
        moved(x, AMEND, 0, 0, 0, 2);
        voters(x, 2, 1, 2, 0, 0, 0, 2);
        x.yield();
        moved(x, AMEND, 0, 1, 0, 2);
        voters(x, 0, 0, 1, 0, 0, 0, 2);
        moved(x, PUT, 0, 0, 2, 3);
        voters(x, 0, 0, 2, 0, 0, 0, 2);
        moved(x, REPLACE, 0, 0, 2, 4);
        voters(x, 2, 1, 2, 0, 0, 0, 2);
        moved(x, TABLE, 0, 0, 2, 5);
        voters(x, 2, 1, 0, 0, 0, 0, 2);
        moved(x, BACK, 0, 0, 2, 6);
        voters(x, 2, 2, 1, 0, 0, 0, 2);
        due("vote", x.vote(), 0);
        due("yes", x.voted(0), 1);
        due("no", x.voted(1), 3);
    }

    static void amended() {
        // each of these names SECTION 2 of 1 2 3 4 and stays at it
        int[][] first = {{AMEND, 0, 1}, {AMEND, 3, 2}, {PUT, 0, 3}, {PUT, 2, 3}, {PUT, 3, 2}, {PUT, 4, 2}, {REPLACE, 2, 2}, {REPLACE, 0, 2}};
        for (int[] f : first) {
            HouseCalendar x = rising(f);
            due("SECTION behind " + f[0] + " at " + f[1], x.motion(1, 2), f[2]);
            due("behind all", x.motion(2, 2), x.billTold(0, 1));
        }
    }

    /** 1 2 3 4 with an AMEND of SECTION 2 and a PUT behind all in THE PILE, behind one more that was done. */
    static HouseCalendar rising(int[] f) {
        HouseCalendar x = new HouseCalendar();
        for (int i = 0; i < 4; i++) x.member(i);
        ruleBy(x, "rank party;may 1;pass no<yes;quorum 1;");
        x.report(draft(x, 1, 2, 3, 4));
        x.call();
        askAll(x, 1);
        moved(x, MOTION, 0, 0, 0, 1);
        moved(x, AMEND, 1, 2, 0, 2);
        moved(x, PUT, 2, 4, 50, 3);
        moved(x, f[0], 3, f[1], 60, 4);
        due("vote", x.vote(), 1);
        return x;
    }

    static void gone() {
        HouseCalendar x = rising(new int[]{AMEND, 2});
        due("GONE", x.motion(1, 2), NONE);
        due("behind all", x.motion(2, 2), 3);
        words(x, 0, 1, 2, 4);
        due("PUT behind all", x.vote(), 1);
        words(x, 0, 1, 2, 4, 50);
        x.tell(AMEND, 0, 0);
        due("a GONE one is CARRIED", x.vote(), 1);
        words(x, 0, 1, 2, 4, 50);
        due("but not done", x.count(10), 1);
        // a PUT ahead of one that goes is GONE, and nobody's likes count in it
        HouseCalendar y = new HouseCalendar();
        for (int i = 0; i < 4; i++) y.member(i);
        ruleBy(y, "rank party;may 1;pass no<yes;quorum 1;");
        y.report(draft(y, 1, 2));
        y.call();
        y.like(0, 9, 5);
        y.like(1, 1, -3);
        moved(y, MOTION, 0, 0, 0, 1);
        moved(y, PUT, 1, 1, 9, 2);
        due("would", y.would(0), 1);
        moved(y, AMEND, 2, 1, 0, 3);
        y.ask(0, 1);
        due("vote", y.vote(), 1);
        y.ask(0, 0);
        due("GONE", y.motion(1, 2), NONE);
        due("its WORD stays", y.motion(1, 3), 9);
        due("would", y.would(0), 0);
        due("vote", y.vote(), 0);
        words(y, 0, 1);
        // the PUT moves with its SECTION, and comes ahead of it
        HouseCalendar z = rising(new int[]{PUT, 2});
        words(z, 0, 1, 2, 60, 3, 4);
        z.yield();
        due("AMEND", z.vote(), 1);
        words(z, 0, 1, 2, 60, 4);
        due("nothing stands", z.billTold(0, 0), 2);
    }

    static void fullBill() {
        HouseCalendar x = withUp(2, 1, 2, 3, 4, 5, 6, 7, 8, 9, 10);
        x.like(0, 11, 4);
        moved(x, MOTION, 0, 0, 0, 1);
        moved(x, PUT, 0, 10, 11, 2);
        due("would", x.would(0), 0);
        due("SECTION", x.motion(1, 2), 10);
        x.tell(AMEND, 0, 0);
        askAll(x, 1);
        due("vote", x.vote(), 1);
        due("SECTIONS", x.billTold(0, 1), 10);
        due("not done", x.count(10), 1);
        moved(x, PUT, 0, 0, 11, 2);
        due("vote", x.vote(), 1);
        due("first", x.word(0, 0), 1);
        moved(x, AMEND, 0, 9, 0, 2);
        due("vote", x.vote(), 1);
        words(x, 0, 1, 2, 3, 4, 5, 6, 7, 8, 9);
        moved(x, PUT, 0, 9, 11, 2);
        due("vote", x.vote(), 1);
        words(x, 0, 1, 2, 3, 4, 5, 6, 7, 8, 9, 11);
    }

    static void ruled() {
        HouseCalendar x = house(5);
        int t = read(x, "rank kind;may 1;pass 3<yes;quorum yes=0 and no=0 and kind<7;");
        moved(x, RULE, 1, 0, t, 1);
        voters(x, 2, 1, 2, 2, 2);
        due("RULE", x.vote(), 0);
        due("THE RULE", x.count(9), 0);
        moved(x, RULE, 0, 0, t, 1);
        x.comes(2, false);
        voters(x, 1, 2, 0, 2, 1);
        x.comes(3, false);
        due("RULE", x.vote(), 1);
        due("THE RULE", x.count(9), t);
        x.comes(2, true);
        moved(x, RULE, 0, 0, 0, 1);
        due("by the new one", x.vote(), 0);
        askAll(x, 1);
        moved(x, RULE, 0, 0, 0, 1);
        due("by the new one", x.vote(), 1);
        due("THE RULE", x.count(9), 0);
        // pass knows the mover, THE PILE with THE TOP, and THE MINUTE ahead of the vote's
        HouseCalendar y = house(4);
        ruleBy(y, "rank kind;may 1;pass kind=1 and party=2 and depth=2 and minute=4 and there=3 and members=4;quorum kind=1 and party=2 and depth=2;");
        y.comes(0, false);
        y.report(draft(y, 1));
        y.call();
        moved(y, MOTION, 1, 0, 0, 1);
        due("no quorum", y.vote(), -23);
        moved(y, AMEND, 2, 0, 0, 2);
        due("vote", y.vote(), 1);
        words(y, 0);
    }

    static void p23() {
        HouseCalendar x = house(3);
        long[] first = {0, 0, NONE, 0};
        for (int i = 0; i < 4; i++) due("voted(" + i + ")", x.voted(i), first[i]);
        for (int what : new int[]{-1, 4, LOW, HIGH}) due("voted", x.voted(what), BAD);
        x.ask(0, 1);
        x.ask(1, 1);
        x.ask(2, 2);
        x.act(RULE, 0, 0, 0);
        x.vote();
        long[] then = {2, 1, RULE, 1};
        for (int i = 0; i < 4; i++) due("voted(" + i + ")", x.voted(i), then[i]);
        due("refused", x.vote(), -21);
        due("stays", x.voted(2), RULE);
        x.ask(1, 2);
        x.act(RULE, 0, 0, 0);
        x.vote();
        long[] last = {1, 2, RULE, 0};
        for (int i = 0; i < 4; i++) due("voted(" + i + ")", x.voted(i), last[i]);
    }

    static void p24() {
        HouseCalendar x = withUp(3, 1);
        due("would", x.would(0), NONE);
        for (int m : new int[]{-1, 3, LOW, HIGH}) due("would", x.would(m), BAD);
        x.act(MOTION, 0, 0, 0);
        for (int m : new int[]{-1, 3, LOW, HIGH}) due("would", x.would(m), BAD);
        due("would", x.would(0), 0);
        x.like(0, 1, 2);
        due("would", x.would(0), 1);
        x.ask(0, 2);
        due("would", x.would(0), 2);
        x.comes(0, false);
        due("would", x.would(0), 0);
        x.comes(0, true);
        x.pair(0, 2);
        due("would", x.would(0), 0);
        x.part(2);
        due("would", x.would(0), 2);
    }

    static void p25() {
        HouseCalendar x = withUp(3, 1, 2);
        due("motion", x.motion(0, 0), -100000);
        x.act(MOTION, 2, 1, 5);
        x.act(AMEND, 1, 1, 5);
        x.act(PUT, 0, 2, 5);
        x.act(REPLACE, 2, 0, 6);
        x.act(TABLE, 2, 0, 7);
        x.act(BACK, 1, 0, 7);
        int[][] want = {{0, 2, NONE, NONE, 0}, {1, 1, 1, NONE, 1}, {2, 0, 2, 5, 2}, {3, 2, 0, 6, 3}, {4, 2, NONE, NONE, 4}, {5, 1, NONE, NONE, 5}};
        for (int i = 0; i < 6; i++) for (int w = 0; w < 5; w++) due("motion(" + i + ", " + w + ")", x.motion(i, w), want[i][w]);
        for (int i : new int[]{-1, 6, 8, LOW, HIGH}) due("motion", x.motion(i, 0), -100000);
        for (int w : new int[]{-1, 5, LOW, HIGH}) due("motion", x.motion(0, w), -100000);
        HouseCalendar y = house(3);
        ruleBy(y, "rank party*1000+depth*100+minute-kind+yes+no;may 1;pass 1;quorum 1;");
        y.act(RULE, 2, 5, 1);
        int[] rule = {RULE, 2, NONE, 1, 2097};
        for (int w = 0; w < 5; w++) due("motion(0, " + w + ")", y.motion(0, w), rule[w]);
        y.day();
        due("its rank now", y.motion(0, 4), 2094);
        // an AMEND above a RULE, where the ranks allow it
        y.yield();
        y.report(draft(y, 1));
        y.call();
        moved(y, RULE, 0, 0, 0, 1);
        moved(y, TABLE, 1, 0, 0, 2);
        due("TABLE", y.vote(), 1);
        due("THE PILE is empty", y.count(4), 0);
    }

    static void p26() {
        HouseCalendar x = withUp(1, 1);
        due("yield", x.yield(), STATE);
        x.act(MOTION, 0, 0, 0);
        x.act(AMEND, 0, 0, 0);
        due("yield", x.yield(), 1);
        due("MOTION is left", x.motion(0, 0), MOTION);
        due("yield", x.yield(), 0);
        due("yield", x.yield(), STATE);
        due("minute", x.count(7), 2);
        due("BILL is UP", x.billTold(0, 0), 2);
    }

    static void p27() {
        HouseCalendar x = withUp(1, 1);
        x.act(MOTION, 0, 0, 0);
        due("minute", x.count(7), 1);
        due("day", x.day(), 1);
        due("minute", x.count(7), 0);
        due("PILE", x.count(4), 1);
        for (int i = 2; i <= 999; i++) due("day", x.day(), i);
        due("day", x.day(), FULL);
        due("DAY", x.count(6), 999);
    }

    static void p28() {
        HouseCalendar x = house(2);
        due("tell", x.tell(AMEND, 0, 0), STATE);
        due("tell", x.tell(PUT, 0, 0), BAD);
        due("tell", x.tell(MOTION, 0, 1), BAD);
        x.report(draft(x, 1, 2));
        x.call();
        for (int k : new int[]{-1, 0, 4, 6, LOW, HIGH}) due("kind", x.tell(k, 0, 1), BAD);
        for (int w : new int[]{0, 61, LOW, HIGH}) {
            due("word", x.tell(PUT, 0, w), BAD);
            due("word", x.tell(REPLACE, 0, w), BAD);
        }
        for (int p : new int[]{-1, 2, LOW, HIGH}) {
            due("section", x.tell(AMEND, p, 1), BAD);
            due("section", x.tell(REPLACE, p, 1), BAD);
        }
        for (int p : new int[]{-1, 3, LOW, HIGH}) due("section", x.tell(PUT, p, 1), BAD);
        due("tell", x.tell(AMEND, 1, LOW), 1);
        due("tell", x.tell(PUT, 2, 60), 2);
        due("tell", x.tell(REPLACE, 0, 1), 3);
        due("tell", x.tell(REPLACE, 0, 1), 4);
        due("tell", x.tell(REPLACE, 0, 1), 5);
        due("tell", x.tell(REPLACE, 0, 1), FULL);
        due("tell", x.tell(REPLACE, 2, 1), BAD);
        due("count", x.count(10), 5);
        x.act(MOTION, 0, 0, 0);
        x.act(AMEND, 0, 0, 0);
        askAll(x, 2);
        x.vote();
        due("not done: they stay", x.count(10), 5);
        askAll(x, 1);
        x.act(AMEND, 0, 0, 0);
        x.vote();
        due("done: they are gone", x.count(10), 0);
        x.tell(AMEND, 0, 0);
        x.act(REPLACE, 0, 0, 2);
        x.vote();
        due("REPLACE", x.count(10), 0);
        x.tell(AMEND, 0, 0);
        x.yield();
        x.act(RULE, 0, 0, 0);
        x.vote();
        due("a RULE changes no BILL", x.count(10), 1);
        x.act(MOTION, 0, 0, 0);
        x.act(BACK, 0, 0, 0);
        x.vote();
        due("not UP any more", x.count(10), 0);
    }

    static void p29() {
        HouseCalendar x = house(2);
        due("foresee", x.foresee(0, 0), NO);
        x.report(draft(x, 1, 2, 3));
        x.call();
        x.like(0, 2, 4);
        due("none TOLD", x.foresee(0, 0), 4);
        due("none TOLD", x.foresee(1, 0), NO);
        for (int m : new int[]{-1, 2, LOW, HIGH}) due("member", x.foresee(0, m), NO);
        x.tell(AMEND, 1, 0);
        due("voted down", x.foresee(0, 0), 4);
        x.ask(0, 1);
        due("by an ask", x.foresee(0, 0), 0);
        x.ask(0, 0);
        x.tell(PUT, 1, 9);
        x.like(1, 9, 3);
        x.like(1, 2, -1);
        x.like(0, 9, 0);
        for (int bad : new int[]{0, 7, 2, 12, 6 + 36, -1, -6, LOW, HIGH}) due("order " + bad, x.foresee(bad, 0), NO);
        due("first 0 (yes and no are like), then 1", x.foresee(6, 1), 2);
        x.comes(0, false);
        due("those THERE: 0 goes, 1 is GONE", x.foresee(6, 1), 0);
        due("1 first", x.foresee(1, 1), 3);
        due("the BILL stays", x.word(0, 1), 2);
        // five of them, a full BILL, and no more than 10 SECTIONS
        HouseCalendar y = withUp(1, 1, 1, 1, 1, 1, 1, 1, 1);
        y.like(0, 2, 1);
        for (int i = 0; i < 4; i++) y.tell(PUT, 8, 2);
        y.tell(AMEND, 0, 0);
        y.ask(0, 1);
        due("2 come, 2 don't, one goes", y.foresee(0 + 6 + 2 * 36 + 3 * 216 + 4 * 1296, 0), 2);
        due("3 come", y.foresee(4 + 6 * 0 + 36 + 2 * 216 + 3 * 1296, 0), 3);
        due("6 is not one", y.foresee(5 + 6 * 0 + 36 + 2 * 216 + 3 * 1296, 0), NO);
        due("too long", y.foresee(7776 + 4 + 6 * 0 + 36 + 2 * 216 + 3 * 1296, 0), NO);
        // pass: its own KIND, PARTY and depth 0, THE MINUTE as it is, and no quorum
        HouseCalendar z = house(4);
        ruleBy(z, "rank kind;may 1;pass kind=3 and party=0 and depth=0 and minute=4 and yes=1 and no=0;quorum depth=1;");
        z.report(draft(z, 1));
        z.call();
        z.like(3, 5, 5);
        z.tell(REPLACE, 0, 5);
        z.act(MOTION, 3, 0, 0);
        due("not at this MINUTE", z.foresee(0, 3), 0);
        z.act(AMEND, 3, 0, 0);
        due("at this one", z.foresee(0, 3), 5);
        for (int i = 0; i < 99; i++) {
            z.yield();
            z.act(AMEND, 3, 0, 0);
        }
        due("no MINUTE is left", z.count(7), 100);
        due("no MINUTE is needed", z.foresee(0, 3), 0);
    }

    static void p30() {
        HouseCalendar x = house(1);
        due("best", x.best(0), STATE);
        due("best", x.best(1), BAD);
        x.report(draft(x, 1, 2, 3));
        x.call();
        due("best of none", x.best(0), 0);
        for (int m : new int[]{-1, 1, LOW, HIGH}) due("best", x.best(m), BAD);
        x.tell(AMEND, 0, 0);
        x.tell(AMEND, 0, 0);
        due("the lesser of like ones", x.best(0), 1);
        // above or below 0, the greatest counts
        HouseCalendar y = withUp(2, 1);
        y.ask(0, 1);
        y.ask(1, 1);
        y.like(0, 1, -9);
        y.like(0, 2, -3);
        y.like(0, 3, -5);
        y.like(1, 3, 1);
        y.tell(REPLACE, 0, 2);
        y.tell(REPLACE, 0, 3);
        due("best of 0", y.best(0), 1);
        due("worth", y.foresee(1, 0), -3);
        due("best of 1", y.best(1), 6);
        due("worth", y.foresee(6, 1), 1);
        x.day();
        due("again", x.best(0), 1);
    }

    static void p31() {
        HouseCalendar x = house(0);
        int a = draft(x, 1, 2, 3, 4, 5), b = draft(x, 5, 1, 3, 9, 4), c = draft(x), d = draft(x, 7, 7, 7), e = draft(x, 8, 7, 7);
        due("confer", x.confer(a, b), 3);
        due("confer", x.confer(b, a), 3);
        due("nothing", x.confer(a, c), 0);
        due("nothing", x.confer(a, d), 0);
        due("twice the same", x.confer(d, e), 2);
        due("itself", x.confer(a, a), BAD);
        for (int n : new int[]{-1, 5, LOW, HIGH}) {
            due("confer", x.confer(a, n), BAD);
            due("confer", x.confer(n, a), BAD);
        }
        int f = draft(x, 1, 2, 3, 4, 5, 6, 7, 8, 9, 10), g = draft(x, 1, 2, 3, 4, 5, 6, 7, 8, 9, 10);
        due("all", x.confer(f, g), 10);
    }

    static void row(HouseCalendar x, int a, int b, int... want) {
        for (int i = 0; i < want.length; i++) due("conferred(" + i + ")", x.conferred(a, b, i), want[i]);
        for (int i : new int[]{-1, want.length, 10, LOW, HIGH}) due("conferred", x.conferred(a, b, i), NONE);
        due("confer", x.confer(a, b), want.length);
    }

    static void p32() {
        HouseCalendar x = house(0);
        int a = draft(x, 4, 5, 6), b = draft(x, 5, 4, 6), c = draft(x, 9, 1, 8, 2), d = draft(x, 1, 9, 2, 8);
        row(x, a, b, 4, 6);
        row(x, b, a, 4, 6);
        // 1 2, 1 8, 9 2 and 9 8 are like long: the first place rules, then the next one
        row(x, c, d, 1, 2);
        row(x, a, c);
        int e = draft(x, 3, 1, 2, 3, 1), f = draft(x, 1, 3, 2, 1, 3);
        row(x, e, f, 1, 2, 1);
        for (int n : new int[]{-1, 6, LOW, HIGH}) {
            due("conferred", x.conferred(a, n, 0), BAD);
            due("conferred", x.conferred(n, a, -1), BAD);
        }
        due("conferred", x.conferred(a, a, 0), BAD);
        int g = draft(x, 1, 2, 3, 4, 5, 6, 7, 8, 9, 10), h = draft(x, 1, 2, 3, 4, 5, 6, 7, 8, 9, 10);
        row(x, g, h, 1, 2, 3, 4, 5, 6, 7, 8, 9, 10);
    }

    static void p33() {
        HouseCalendar x = house(5);
        x.comes(1, false);
        read(x, DEFAULT);
        x.feed(3, 0);
        x.report(draft(x, 1));
        x.report(draft(x, 1));
        x.report(draft(x, 1));
        x.call();
        x.day();
        x.day();
        x.act(MOTION, 0, 0, 0);
        x.act(TABLE, 0, 0, 0);
        x.yield();
        x.act(AMEND, 0, 0, 0);
        x.tell(AMEND, 0, 0);
        long[] want = {5, 4, 3, 2, 2, 3, 2, 3, 0, 0, 1, 2};
        for (int i = 0; i < want.length; i++) due("count(" + i + ")", x.count(i), want[i]);
        for (int what : new int[]{-1, 12, LOW, HIGH}) due("count", x.count(what), BAD);
    }

    static void p34() {
        HouseCalendar x = house(1);
        for (int t : new int[]{-1, 4, LOW, HIGH}) due("tray", x.tray(t, 1), BAD);
        for (int n : new int[]{41, HIGH}) due("tray", x.tray(0, n), BAD);
        for (int n : new int[]{-2, LOW}) due("tray", x.tray(0, n), -14);
        due("tray", x.tray(4, -2), BAD);
        due("missing", x.cell(0, 0, 0), -11);
        due("tray", x.tray(0, 0), 1);
        due("empty", x.cell(0, 0, 0), -12);
        due("tray", x.tray(0, 40), 1);
        due("cell", x.cell(0, 39, 1), 1);
        due("tray", x.tray(0, -1), 1);
        due("missing", x.cell(0, 0, 0), -11);
        due("tray", x.tray(3, 4), 1);
        x.cell(3, 0, 6);
        x.cell(3, 1, 9);
        due("no such MEMBER", x.made(3, 0), BAD);
        x.tray(3, 4);
        due("all 0 again: no BILL is UP", x.made(3, 0), -21);
    }

    static void p35() {
        HouseCalendar x = house(1);
        x.tray(1, 4);
        for (int t : new int[]{-1, 4, LOW, HIGH}) due("cell", x.cell(t, 0, 0), BAD);
        due("missing", x.cell(0, 0, 0), -11);
        due("missing", x.cell(0, -1, 0), -11);
        for (int i : new int[]{-1, 4, 40, LOW, HIGH}) due("cell", x.cell(1, i, 0), -12);
        for (int i = 0; i < 4; i++) due("cell", x.cell(1, i, 0), 1);
        due("lowest 8 bits", x.cell(1, 0, 0x7F06), 1);
        due("made: RULE", x.made(1, 0), 1);
        x.cell(1, 0, LOW | 4);
        x.report(draft(x, 1));
        x.call();
        due("made: TABLE", x.made(1, 0), -25);
        x.cell(1, 0, -1);
        due("made: no KIND", x.made(1, 0), BAD);
    }

    static void p36() {
        HouseCalendar x = withUp(2, 1, 2, 3);
        for (int t : new int[]{-1, 4, LOW, HIGH}) due("made", x.made(t, 0), BAD);
        due("made", x.made(2, 0), -11);
        due("made", x.made(2, -1), -11);
        x.tray(2, 6);
        for (int f : new int[]{-1, 3, 6, 40, LOW, HIGH, HIGH - 2}) due("made", x.made(2, f), -12);
        due("made: MOTION", x.made(2, 0), 1);
        due("minute", x.count(7), 1);
        int[] bytes = {9, 9, PUT, 1, 3, 60};
        for (int i = 0; i < 6; i++) x.cell(2, i, bytes[i]);
        due("made: no KIND", x.made(2, 0), BAD);
        due("made: PUT", x.made(2, 2), 2);
        int[] want = {PUT, 1, 3, 60, 2};
        for (int i = 0; i < 5; i++) due("motion", x.motion(1, i), want[i]);
        due("made: rank", x.made(2, 2), -25);
        x.cell(2, 4, 4);
        due("made: SECTION", x.made(2, 2), BAD);
        x.cell(2, 4, 255);
        due("made: SECTION", x.made(2, 2), BAD);
        x.tray(2, 3);
        due("made", x.made(2, 0), -12);
    }

    static void p37() {
        HouseCalendar x = withUp(7, 1);
        due("taken", x.taken(0, 0), -11);
        for (int k = 0; k < 6; k++) due("act", x.act(k, 6 - k, 0, 1), k + 1);
        for (int k = 0; k < 6; k++) {
            for (int as = 0; as < 7; as++) {
                boolean under = as == k || as == MOTION || as == AMEND && (k == PUT || k == REPLACE);
                due("taken(" + k + ", " + as + ")", x.taken(k, as), under ? 6 - k : -13);
            }
        }
        for (int k : new int[]{-1, 7, LOW, HIGH}) {
            due("taken", x.taken(0, k), BAD);
            due("taken", x.taken(-1, k), BAD);
        }
        for (int i : new int[]{-1, 6, LOW, HIGH}) due("taken", x.taken(i, 0), -11);
        HouseCalendar y = house(1);
        y.act(RULE, 0, 0, 0);
        due("RULE for MOTION", y.taken(0, MOTION), 0);
        due("RULE for RULE", y.taken(0, RULE), 0);
        due("RULE for BACK", y.taken(0, BACK), -13);
    }

    static void promise(int n) {
        at = "promise " + n;
        switch (n) {
            case 1: p01(); break; case 2: p02(); break; case 3: p03(); break; case 4: p04(); break;
            case 5: p05(); break; case 6: p06(); break; case 7: p07(); break; case 8: p08(); break;
            case 9: p09(); break; case 10: p10(); break; case 11: p11(); break; case 12: p12(); break;
            case 13: p13(); break; case 14: p14(); break; case 15: p15(); break; case 16: p16(); break;
            case 17: p17(); break; case 18: p18(); break; case 19: p19(); break; case 20: p20(); break;
            case 21: p21(); break; case 22: p22(); break; case 23: p23(); break; case 24: p24(); break;
            case 25: p25(); break; case 26: p26(); break; case 27: p27(); break; case 28: p28(); break;
            case 29: p29(); break; case 30: p30(); break; case 31: p31(); break; case 32: p32(); break;
            case 33: p33(); break; case 34: p34(); break; case 35: p35(); break; case 36: p36(); break;
            default: p37(); break;
        }
    }

    public static void main(String[] args) {
        for (int n = 1; n <= 37; n++) promise(n);
        System.out.println("HouseCalendarTest: " + wrong + " wrong");
        if (wrong != 0) System.exit(1);
    }
}
