/** The edges of promises 20 to 27, and of "Terms" 2 and 4: MOVING, THE PILE, MINUTES, what a change does to others, and a VOTE. */
public final class ActsEdgesTest extends Edges {
    // The rank grows with the KIND and, of like ones, with the mover's PARTY; BACK may not be moved.
    static final String LADDER = "rule rank 8*kind+party;may not kind=5;pass no<yes;quorum 1; / ";
    // Any MOTION may come onto any other, as far as its mover's PARTY is greater.
    static final String PARTIES = "rule rank party;may 1;pass no<yes;quorum 1; / ";
    // THE PILE is full.
    static final String EIGHT = "house 4 / " + LADDER + "up 1 2 / act 0 3 0 0 / act 1 0 0 0 / act 1 1 0 0 / act 1 2 0 0 / act 1 3 0 0"
        + " / act 2 0 0 5 / act 3 0 0 5 / act 4 0 0 0 / ";

    /** act() is refused, and why() tells the same of these numbers. */
    static void hindered(String sentence, String calls, String motion, int why, String... values) {
        String[] all = values.length == 0 ? new String[]{""} : values;
        refused(sentence, calls + "act " + motion, why < 0 ? why : -20 - why, all);
        refused(sentence, calls + "why " + motion, why, all);
    }

    /** act() is not refused; why() tells 0. */
    static void moved(String sentence, String calls, String motion, int piled, String... values) {
        String[] all = values.length == 0 ? new String[]{""} : values;
        edges(sentence, calls + "act " + motion, piled, all);
        refused(sentence, calls + "why " + motion, 0, all);
    }

    static void numbers() {
        String up = "house 2 / up 7 8 / act 0 0 0 0 / ";
        hindered("20: no such KIND", "house 2 / up 7 8 / ", "# 0 0 1", BAD, outside(7));
        hindered("20: no such MEMBER", "house 2 / up 7 8 / ", "0 # 0 0", BAD, outside(2));
        hindered("20: no such MEMBER, of each KIND", up, "# 2 0 1", BAD, "0", "1", "2", "3", "4", "5", "6");
        hindered("20: no such WORD", up, "2 0 0 #", BAD, "low", "-1", "0", "61", "high");
        hindered("20: no such WORD", up, "3 0 0 #", BAD, "low", "-1", "0", "61", "high");
        hindered("20: no such TEXT", "house 2 / read rank 1;may 1;pass 1;quorum 1; / ", "6 0 0 #", BAD, outside(2));
        hindered("20: no such TEXT, by a FAULT", "house 2 / read rank 1 / ", "6 0 0 1", BAD);
        hindered("20: AMEND: no such SECTION", up, "1 0 # 0", BAD, outside(2));
        hindered("20: PUT: no such SECTION", up, "2 0 # 7", BAD, outside(3));
        hindered("20: REPLACE: no such SECTION", up, "3 0 # 7", BAD, outside(2));
        moved("20: AMEND: 0 .. SECTIONS less 1", up, "1 1 # 0", 2, "0", "1");
        moved("20: PUT: as many as these, too", up, "2 1 # 7", 2, "0", "1", "2");
        moved("20: REPLACE: 0 .. SECTIONS less 1", up, "3 1 # 7", 2, "0", "1");
        moved("20: WORDS 1 .. 60", up, "2 1 0 #", 2, "1", "60");
        moved("20: WORDS 1 .. 60", up, "3 1 0 #", 2, "1", "60");
        String empty = "house 2 / up / act 0 0 0 0 / ";
        moved("20: PUT in a BILL without SECTIONS", empty, "2 0 0 7", 2);
        hindered("20: PUT in a BILL without SECTIONS", empty, "2 0 1 7", BAD);
        hindered("20: AMEND in a BILL without SECTIONS", empty, "1 0 0 7", BAD);
        hindered("20: REPLACE in a BILL without SECTIONS", empty, "3 0 0 7", BAD);
        String ten = "house 2 / up 1 2 3 4 5 6 7 8 9 10 / act 0 0 0 0 / ";
        moved("20: PUT in a full BILL", ten, "2 0 # 7", 2, "0", "10");
        hindered("20: PUT in a full BILL", ten, "2 0 11 7", BAD);
        hindered("20: REPLACE in a full BILL", ten, "3 0 10 7", BAD);
        String none = "house 2 / ";
        hindered("20: a SECTION is looked at only if a BILL is UP", none, "1 0 # 0", 1, "low", "-1", "0", "high");
        hindered("20: a SECTION is looked at only if a BILL is UP", none, "2 0 # 1", 1, "low", "-1", "0", "high");
        hindered("20: a WORD is looked at, also if no BILL is UP", none, "2 0 0 #", BAD, "0", "61");
        hindered("20: a WORD is looked at, also if no BILL is UP", none, "3 0 0 #", BAD, "0", "61");
        moved("20: MOTION: others do not matter", "house 2 / up 7 / ", "0 0 # #", 1, outside(61));
        moved("20: AMEND: others do not matter", up, "1 0 0 #", 2, outside(61));
        moved("20: TABLE: others do not matter", up, "4 0 # #", 2, outside(61));
        moved("20: BACK: others do not matter", up, "5 0 # #", 2, outside(61));
        moved("20: RULE: others do not matter", none, "6 0 # 0", 1, outside(61));
    }

    static void badAhead() {
        hindered("20: BAD ahead of WHY 1", "house 1 / ", "#", BAD, "7 0 0 0", "0 1 0 0", "2 0 0 0", "6 0 0 1");
        hindered("20: BAD ahead of WHY 2", "house 1 / spend 100 / up 7 / ", "#", BAD, "7 0 0 0", "0 1 0 0", "1 0 1 0", "2 0 2 1", "3 0 0 61", "6 0 0 1");
        hindered("20: BAD ahead of WHY 3", "house 1 / up 7 / comes 0 false / ", "#", BAD, "1 0 1 0", "2 0 2 1", "3 0 0 61", "6 0 0 1");
        hindered("20: BAD ahead of WHY 4", "house 1 / up 7 / ", "#", BAD, "1 0 1 0", "2 0 2 1", "3 0 0 61");
        hindered("20: BAD ahead of WHY 5", "house 1 / up 7 / act 0 0 0 0 / act 4 0 0 0 / ", "#", BAD, "1 0 1 0", "2 0 2 1", "3 0 0 61");
        hindered("20: BAD ahead of WHY 7", EIGHT, "#", BAD, "1 0 2 0", "2 0 3 1", "3 0 0 61", "4 4 0 0");
    }

    static void whys() {
        hindered("Terms: WHY 1: no BILL is UP", "house 1 / draft 7 / report 0 / ", "# 0 0 1", 1, "0", "1", "2", "3", "4", "5");
        moved("Terms: WHY 1, not for RULE", "house 1 / ", "6 0 0 0", 1);
        hindered("Terms: WHY 1: UP no more", "house 1 / up 7 / act 0 0 0 0 / vote / ", "0 0 0 0", 1);
        moved("Terms: the 100th MINUTE", "house 1 / spend 99 / ", "6 0 0 0", 1);
        hindered("Terms: WHY 2: no MINUTE is left", "house 1 / spend 100 / ", "6 0 0 0", 2);
        hindered("Terms: WHY 2: no MINUTE is left", "house 1 / spend 99 / up 7 / act 0 0 0 0 / ", "# 0 0 1", 2, "1", "2", "3", "4", "5");
        moved("Terms: MINUTES of the next DAY", "house 1 / spend 100 / day / ", "6 0 0 0", 1);
        hindered("Terms: WHY 3: the mover is not THERE", "house 2 / up 7 / comes 1 false / ", "# 1 0 0", 3, "0", "6");
        moved("Terms: WHY 3: another one is not THERE", "house 2 / up 7 / comes 1 false / ", "0 0 0 0", 1);
        moved("Terms: WHY 3: it is THERE again", "house 2 / up 7 / comes 1 false / comes 1 true / ", "0 1 0 0", 1);
        moved("1: one in a PAIR may move", "house 2 / up 7 / pair 0 1 / ", "0 1 0 0", 1);
        hindered("Terms: WHY 4: THE PILE is empty", "house 1 / up 7 / ", "# 0 0 1", 4, "1", "2", "3", "4", "5");
        hindered("Terms: WHY 4: THE PILE is not empty", "house 1 / up 7 / act 0 0 0 0 / ", "# 0 0 0", 4, "0", "6");
        hindered("Terms: WHY 4: a RULE in THE PILE", "house 1 / act 6 0 0 0 / up 7 / ", "# 0 0 0", 4, "0", "6");
        moved("Terms: THE PILE is empty again", "house 1 / up 7 / act 0 0 0 0 / yield / ", "# 0 0 0", 1, "0", "6");
        hindered("Terms: WHY 5: a like rank", "house 1 / up 7 / act 0 0 0 0 / act 3 0 0 1 / ", "3 0 0 1", 5);
        hindered("Terms: WHY 5: a lesser rank", "house 1 / up 7 / act 0 0 0 0 / act 3 0 0 1 / ", "# 0 0 1", 5, "1", "2");
        moved("Terms: a rank just above", "house 1 / up 7 / act 0 0 0 0 / act 3 0 0 1 / ", "4 0 0 1", 3);
        moved("Terms: above, but not under", "house 1 / up 7 / act 0 0 0 0 / ", "# 0 0 1", 2, "1", "2", "3", "4", "5");
        hindered("Terms: WHY 5: the rank of a RULE in THE PILE", "house 1 / act 6 0 0 0 / up 7 / ", "# 0 0 1", 5, "1", "2", "3", "4", "5");
        hindered("Terms: WHY 5: below 0", "house 1 / rule rank -kind;may 1;pass 1;quorum 1; / up 7 / act 0 0 0 0 / ", "1 0 0 1", 5);
        hindered("Terms: WHY 6: may is 0", "house 1 / rule rank 1;may kind;pass 1;quorum 1; / up 7 / ", "0 0 0 0", 6);
        moved("Terms: may is below 0, not 0", "house 1 / rule rank 1;may -1;pass 1;quorum 1; / up 7 / ", "0 0 0 0", 1);
        hindered("Terms: WHY 6: of a RULE, too", "house 1 / rule rank 1;may 0;pass 1;quorum 1; / ", "6 0 0 0", 6);
        hindered("Terms: yes and no are 0 in may", "house 1 / rule rank 1;may yes+no;pass 1;quorum 1; / ", "6 0 0 0", 6);
        moved("Terms: the 8th MOTION of THE PILE", EIGHT + "yield / ", "4 0 0 0", 8);
        hindered("Terms: WHY 7: THE PILE is full", EIGHT, "4 # 0 0", 7, "1", "2", "3");
        moved("Terms: THE PILE has room again", EIGHT + "yield / ", "4 3 0 0", 8);
    }

    static void leastWhy() {
        hindered("Terms: the least: 1 of 1, 2", "house 1 / spend 100 / ", "# 0 0 1", 1, "0", "1", "2", "3", "4", "5");
        hindered("Terms: the least: 1 of 1, 3", "house 1 / comes 0 false / ", "0 0 0 0", 1);
        hindered("Terms: the least: 1 of 1, 4", "house 1 / ", "# 0 0 1", 1, "1", "2", "3", "4", "5");
        hindered("Terms: the least: 1 of 1, 4", "house 1 / act 6 0 0 0 / ", "0 0 0 0", 1);
        hindered("Terms: the least: 1 of 1, 5", "house 1 / act 6 0 0 0 / ", "# 0 0 1", 1, "1", "2", "3", "4", "5");
        hindered("Terms: the least: 1 of 1, 6", "house 1 / rule rank 1;may 0;pass 1;quorum 1; / ", "0 0 0 0", 1);
        hindered("Terms: the least: 2 of 2, 3", "house 1 / spend 100 / comes 0 false / ", "6 0 0 0", 2);
        hindered("Terms: the least: 2 of 2, 4", "house 1 / spend 100 / up 7 / ", "1 0 0 0", 2);
        hindered("Terms: the least: 2 of 2, 4", "house 1 / spend 99 / act 6 0 0 0 / ", "6 0 0 0", 2);
        hindered("Terms: the least: 2 of 2, 5", "house 1 / spend 98 / up 7 / act 0 0 0 0 / act 4 0 0 0 / ", "4 0 0 0", 2);
        hindered("Terms: the least: 2 of 2, 6", "house 1 / rule rank 1;may minute<100;pass 1;quorum 1; / spend 98 / ", "6 0 0 0", 2);
        hindered("Terms: the least: 2 of 2, 7", EIGHT + "yield / act 4 0 0 0 / ".repeat(90), "4 1 0 0", 2);
        hindered("Terms: the least: 3 of 3, 4", "house 1 / up 7 / comes 0 false / ", "1 0 0 0", 3);
        hindered("Terms: the least: 3 of 3, 4", "house 1 / up 7 / act 0 0 0 0 / comes 0 false / ", "# 0 0 0", 3, "0", "6");
        hindered("Terms: the least: 3 of 3, 5", "house 1 / up 7 / act 0 0 0 0 / act 4 0 0 0 / comes 0 false / ", "4 0 0 0", 3);
        hindered("Terms: the least: 3 of 3, 6", "house 2 / rule rank 1;may there-1;pass 1;quorum 1; / up 7 / comes 1 false / ", "0 1 0 0", 3);
        hindered("Terms: the least: 3 of 3, 7", EIGHT + "comes 3 false / ", "4 3 0 0", 3);
        hindered("Terms: the least: 4 of 4, 5", "house 1 / up 7 / act 0 0 0 0 / ", "0 0 0 0", 4);
        hindered("Terms: the least: 4 of 4, 6", "house 1 / rule rank 1;may 0;pass 1;quorum 1; / up 7 / ", "1 0 0 0", 4);
        hindered("Terms: the least: 4 of 4, 7", EIGHT, "# 3 0 0", 4, "0", "6");
        hindered("Terms: the least: 5 of 5, 6", "house 1 / rule rank 1;may depth=0;pass 1;quorum 1; / up 7 / act 0 0 0 0 / ", "1 0 0 0", 5);
        hindered("Terms: the least: 5 of 5, 7", EIGHT, "# 0 0 5", 5, "1", "2", "3", "4");
        hindered("Terms: the least: 6 of 6, 7", EIGHT, "5 0 0 0", 6);
    }

    static void ranks() {
        moved("Terms: both ranks as they are now: THE MINUTE", "house 1 / rule rank kind-10*minute;may 1;pass 1;quorum 1; / up 7 / act 0 0 0 0 / ", "1 0 0 0", 2);
        hindered("Terms: both ranks as they are now: depth", "house 1 / rule rank depth;may 1;pass 1;quorum 1; / up 7 / act 0 0 0 0 / ", "1 0 0 0", 5);
        hindered("Terms: both ranks as they are now: those THERE", "house 2 / rule rank kind*(there-1);may 1;pass 1;quorum 1; / up 7 / act 0 0 0 0 / comes 1 false / ", "1 0 0 0", 5);
        moved("Terms: its mover's PARTY", "house 2 / " + PARTIES + "up 7 / act 0 0 0 0 / ", "# 1 0 1", 2, "1", "2", "3", "4", "5");
        hindered("Terms: its mover's PARTY", "house 2 / " + PARTIES + "up 7 / act 0 1 0 0 / ", "# 0 0 1", 5, "1", "2", "3", "4", "5");
        hindered("Terms: yes and no are 0 in rank", "house 1 / rule rank kind*(yes+no);may 1;pass 1;quorum 1; / up 7 / act 0 0 0 0 / ", "1 0 0 0", 5);
        moved("Terms: a rank that wraps", "house 1 / rule rank 8192*8192*32-1+kind;may 1;pass 1;quorum 1; / up 7 / act 0 0 0 0 / yield / ", "0 0 0 0", 1);
        hindered("Terms: a rank that wraps is the least", "house 1 / rule rank 8192*8192*32-1+kind;may 1;pass 1;quorum 1; / up 7 / act 0 0 0 0 / ", "1 0 0 0", 5);
        moved("Terms: a MOTION of any KIND on a RULE, if its rank is above", "house 2 / " + PARTIES + "up 7 / act 6 0 0 0 / ", "# 1 0 1", 2, "1", "2", "3", "4", "5");
    }

    static void minutes() {
        edge("Terms: THE MINUTE is 0 at first", "count 7", 0);
        edge("Terms: each act() takes one", "house 1 / act 6 0 0 0 / count 7", 1);
        edge("Terms: each vote() takes one", "house 1 / act 6 0 0 0 / vote / count 7", 2);
        edge("Terms: a vote() that is not CARRIED, too", "house 1 / act 6 0 0 0 / ask 0 2 / vote / count 7", 2);
        edge("Terms: an act() that is refused takes none", "house 1 / act 1 0 0 0 / count 7", 0);
        edge("Terms: an act() that is BAD takes none", "house 1 / act 7 0 0 0 / count 7", 0);
        edge("Terms: a vote() that is refused takes none", "house 1 / vote / count 7", 0);
        edge("21: why() takes none", "house 1 / why 6 0 0 0 / count 7", 0);
        edge("26: yield() takes none", "house 1 / act 6 0 0 0 / yield / count 7", 1);
        edge("28: tell() takes none", "house 1 / up 7 / tell 1 0 0 / count 7", 0);
        edge("Terms: made() is an act()", "house 1 / up 7 / tray 0 4 / made 0 0 / count 7", 1);
        edge("Terms: 100 on a DAY", "house 1 / spend 100 / count 7", 100);
        edge("Terms: a vote() in the 100th", "house 1 / spend 98 / act 6 0 0 0 / vote", 1);
        refused("Terms: no MINUTE for a vote()", "house 1 / spend 99 / act 6 0 0 0 / vote", -22);
        edge("Terms: a vote() on the next DAY", "house 1 / spend 99 / act 6 0 0 0 / day / vote", 1);
        edge("Terms: counted when all else is done: pass", "house 1 / rule rank 1;may 1;pass minute=3;quorum 1; / act 6 0 0 0 / vote", 1);
        edge("Terms: counted when all else is done: quorum", "house 1 / rule rank 1;may 1;pass 1;quorum minute=3; / act 6 0 0 0 / vote", 1);
        edge("Terms: counted when all else is done: may", "house 1 / rule rank 1;may minute=2;pass 1;quorum 1; / act 6 0 0 0", 1);
        refused("Terms: counted when all else is done: may, the next one", "house 1 / rule rank 1;may minute=2;pass 1;quorum 1; / act 6 0 0 0 / yield / act 6 0 0 0", -26);
    }

    static void votes() {
        refused("22: WHY 1: THE PILE is empty", "house 1 / up 7 / vote", -21);
        refused("22: WHY 1: THE PILE is empty again", "house 1 / act 6 0 0 0 / vote / vote", -21);
        refused("22: WHY 1 of 1, 2", "house 1 / spend 100 / vote", -21);
        refused("22: WHY 1 of 1, 3", "vote", -21);
        refused("22: WHY 2 of 2, 3", "house 1 / spend 99 / act 6 0 0 0 / comes 0 false / vote", -22);
        refused("22: WHY 3: quorum of just half", "house 4 / act 6 0 0 0 / comes 0 false / comes 1 false / vote", -23);
        edge("22: quorum of more than half", "house 4 / act 6 0 0 0 / comes 1 false / vote", 0);
        refused("22: WHY 3: nobody is THERE", "house 1 / act 6 0 0 0 / comes 0 false / vote", -23);
        edge("22: quorum counts those in a PAIR", "house 2 / act 6 0 0 0 / pair 0 1 / vote", 0);
        edge("22: quorum below 0 is not 0", "house 1 / rule rank 1;may 1;pass 1;quorum -1; / act 6 0 0 0 / vote", 1);
        refused("22: yes and no are 0 in quorum", "house 1 / rule rank 1;may 1;pass 1;quorum yes+no; / act 6 0 0 0 / vote", -23);
        refused("22: quorum by KIND and PARTY of THE TOP", "house 2 / rule rank kind;may 1;pass 1;quorum kind=4 and party=1; / up 7 / act 0 1 0 0 / act 4 0 0 0 / vote", -23);
        edge("22: quorum by KIND and PARTY of THE TOP", "house 2 / rule rank kind;may 1;pass 1;quorum kind=4 and party=1; / up 7 / act 0 0 0 0 / act 4 1 0 0 / vote", 1);
        edge("22: pass by KIND and PARTY of THE TOP", "house 2 / rule rank kind;may 1;pass kind=4 and party=1;quorum 1; / up 7 / act 0 0 0 0 / act 4 1 0 0 / vote", 1);
        edge("22: pass by KIND and PARTY of THE TOP", "house 2 / rule rank kind;may 1;pass kind=0 or party=0;quorum 1; / up 7 / act 0 0 0 0 / act 4 1 0 0 / vote", 0);
        edge("22: depth counts THE TOP", "house 1 / rule rank kind;may 1;pass depth=2;quorum depth=2; / up 7 / act 0 0 0 0 / act 4 0 0 0 / vote", 1);
        edge("22: pass: yes and no are like", "house 2 / up 7 / ask 0 1 / ask 1 2 / act 0 0 0 0 / vote", 0);
        edge("22: pass: one more", "house 3 / up 7 / ask 0 1 / ask 1 2 / ask 2 1 / act 0 0 0 0 / vote", 1);
        edge("22: pass: nobody votes", "house 1 / up 7 / act 0 0 0 0 / vote", 0);
        edge("22: pass below 0 is not 0", "house 1 / rule rank 1;may 1;pass -1;quorum 1; / act 6 0 0 0 / vote", 1);
        edge("22: 15 yes", "15*member 0 / act 6 0 0 0 / vote / voted 0", 15);
        edge("22: 15 no", "14*member 0 / member 1 / act 6 14 0 0 / comes 14 false / vote / voted 1", 14);
    }

    /** How MEMBER 0 votes on a KIND at SECTION 0 of a BILL of WORDS 7 and 8. */
    static void choice(String sentence, String likes, String motion, long want) {
        String base = motion.startsWith("6") ? "" : motion.startsWith("0") ? "up 7 8 / " : "up 7 8 / act 0 1 0 0 / ";
        edge(sentence, "house 2 / " + base + likes + "act " + motion + " / would 0", want);
    }

    static void choices() {
        choice("4: MOTION: worth above 0", "like 0 7 1 / ", "0 1 0 0", 1);
        choice("4: MOTION: worth just 0", "like 0 7 1 / like 0 8 -1 / ", "0 1 0 0", 0);
        choice("4: MOTION: worth below 0", "like 0 7 1 / like 0 8 -2 / ", "0 1 0 0", 2);
        choice("4: AMEND: worth more behind it", "like 0 7 -1 / ", "1 1 0 0", 1);
        choice("4: AMEND: worth just as much", "like 0 8 9 / ", "1 1 0 0", 0);
        choice("4: AMEND: worth less behind it", "like 0 7 1 / like 0 8 -9 / ", "1 1 0 0", 2);
        choice("4: PUT: worth more behind it", "like 0 9 1 / like 0 7 -9 / ", "2 1 0 9", 1);
        choice("4: PUT: worth just as much", "like 0 7 -9 / ", "2 1 0 9", 0);
        choice("4: PUT: worth less behind it", "like 0 9 -1 / like 0 7 9 / ", "2 1 2 9", 2);
        choice("4: REPLACE: worth more behind it", "like 0 7 -2 / like 0 9 -1 / ", "3 1 0 9", 1);
        choice("4: REPLACE: worth just as much", "like 0 7 5 / like 0 9 5 / ", "3 1 0 9", 0);
        choice("4: REPLACE: by the same WORD", "like 0 7 5 / ", "3 1 0 7", 0);
        choice("4: REPLACE: worth less behind it", "like 0 7 2 / like 0 9 1 / ", "3 1 0 9", 2);
        choice("4: TABLE: worth below 0", "like 0 7 -1 / ", "4 1 0 0", 1);
        choice("4: TABLE: worth just 0", "like 0 7 1 / like 0 8 -1 / ", "4 1 0 0", 0);
        choice("4: TABLE: worth above 0", "like 0 7 1 / ", "4 1 0 0", 2);
        choice("4: BACK: worth just 0", "like 0 7 1 / like 0 8 -1 / ", "5 1 0 0", 1);
        choice("4: BACK: worth above 0", "like 0 7 1 / ", "5 1 0 0", 2);
        choice("4: BACK: worth below 0", "like 0 7 -1 / ", "5 1 0 0", 2);
        choice("4: RULE: its PARTY is that of the mover", "", "6 0 0 0", 1);
        choice("4: RULE: its PARTY is another one", "", "6 1 0 0", 2);
        for (int kind = 0; kind <= 6; kind++) {
            String motion = kind + " 1 0 " + (kind == 6 ? 0 : 7);
            choice("4: one that is asked yes", "like 0 7 9 / like 0 8 -9 / ask 0 1 / ", motion, 1);
            choice("4: one that is asked no", "like 0 7 -9 / like 0 8 9 / ask 0 2 / ", motion, 2);
            choice("4: one in a PAIR", "like 0 7 -9 / pair 0 1 / ", motion, 0);
            choice("4: one in a PAIR that is asked", "ask 0 1 / pair 0 1 / ", motion, 0);
            choice("4: one that is not THERE", "ask 0 1 / comes 0 false / ", motion, 0);
        }
        edge("4: its PAIR is not THERE", "house 2 / pair 0 1 / comes 0 false / ask 1 1 / act 6 1 0 0 / would 1", 0);
        edge("4: the mover votes, too", "house 1 / act 6 0 0 0 / would 0", 1);
        edge("4: a PUT in a full BILL changes no worth", "house 1 / up 1 2 3 4 5 6 7 8 9 10 / like 0 11 9 / act 0 0 0 0 / act 2 0 0 11 / would 0", 0);
        edge("4: a PUT in a BILL of 9", "house 1 / up 1 2 3 4 5 6 7 8 9 / like 0 11 9 / act 0 0 0 0 / act 2 0 0 11 / would 0", 1);
        edge("4: a GONE one changes no worth", "house 4 / " + PARTIES + "up 7 8 / like 0 8 -9 / act 0 0 0 0 / act 1 1 1 0 / act 1 2 1 0 / vote / would 0", 0);
        edge("4: who votes neither is not counted", "house 3 / up 7 / like 0 7 1 / like 1 7 -1 / act 0 0 0 0 / vote / voted 0", 1);
        edge("4: who votes neither is not counted", "house 3 / up 7 / like 0 7 1 / like 1 7 -1 / act 0 0 0 0 / vote / voted 1", 1);
    }

    static void outcome(String sentence, String votes, String asked, long state, long piled) {
        String calls = "house 1 / up 7 8 / act 0 0 0 0 / " + votes + "ask 0 " + asked + " / vote / ";
        edge(sentence, calls + "billTold 0 0", state);
        edge(sentence + ": THE PILE", calls + "count 4", piled);
        edge(sentence + ": UP", calls + "count 8", state == 2 ? 0 : NONE);
    }

    static void outcomes() {
        outcome("4: MOTION, CARRIED: PASSED", "", "1", 3, 0);
        outcome("4: MOTION, not CARRIED: ENDED", "", "2", 4, 0);
        for (int kind = 1; kind <= 3; kind++) {
            outcome("4: CARRIED, it is done: UP", "act " + kind + " 0 0 9 / ", "1", 2, 1);
            outcome("4: not CARRIED: UP", "act " + kind + " 0 0 9 / ", "2", 2, 1);
        }
        outcome("4: TABLE, CARRIED: ENDED", "act 4 0 0 0 / ", "1", 4, 0);
        outcome("4: TABLE, CARRIED: ENDED, others in THE PILE", "act 1 0 0 0 / act 2 0 0 9 / act 4 0 0 0 / ", "1", 4, 0);
        outcome("4: TABLE, not CARRIED: UP", "act 4 0 0 0 / ", "2", 2, 1);
        outcome("4: BACK, CARRIED: IN COMMITTEE", "act 5 0 0 0 / ", "1", 0, 0);
        outcome("4: BACK, CARRIED: IN COMMITTEE, others in THE PILE", "act 1 0 0 0 / act 4 0 0 0 / act 5 0 0 0 / ", "1", 0, 0);
        outcome("4: BACK, not CARRIED: UP", "act 5 0 0 0 / ", "2", 2, 1);
        edge("4: a RULE below is gone with the BILL", "house 2 / " + PARTIES + "up 7 / act 6 0 0 0 / act 4 1 0 0 / asks 1 / vote / count 4", 0);
        edge("4: RULE, CARRIED: THE RULE", "house 1 / read rank 1;may 1;pass 1;quorum 1; / act 6 0 0 1 / vote / count 9", 1);
        edge("4: RULE, not CARRIED: THE RULE stays", "house 1 / read rank 1;may 1;pass 1;quorum 1; / ask 0 2 / act 6 0 0 1 / vote / count 9", 0);
        edge("4: RULE, CARRIED: a BILL stays UP", "house 1 / up 7 / act 6 0 0 0 / vote / count 8", 0);
        edge("4: RULE, not CARRIED: a BILL stays UP", "house 1 / up 7 / ask 0 2 / act 6 0 0 0 / vote / count 8", 0);
        edge("4: RULE, by THE RULE that it ends", "house 1 / read rank 1;may 1;pass 0;quorum 1; / act 6 0 0 1 / vote", 1);
        edge("4: the next one by the new one", "house 1 / rule rank 1;may 1;pass 0;quorum 1; / act 6 0 0 0 / vote", 0);
        edge("4: TEXT 0 may be THE RULE again", "house 1 / rule rank 9;may 1;pass 1;quorum 1; / act 6 0 0 0 / vote / count 9", 0);
        edge("4: NAMES stay, but for BACK", "house 1 / bill / sign 0 0 / call / act 0 0 0 0 / vote / billTold 0 3", 1);
        edge("4: BACK: its NAMES are gone", "house 1 / bill / sign 0 0 / call / act 0 0 0 0 / act 5 0 0 0 / vote / billTold 0 3", 0);
        edge("4: BACK: another BILL's NAMES stay", "house 3 / 2*bill / sign 1 0 / report 0 / call / act 0 0 0 0 / act 5 0 0 0 / vote / billTold 1 3", 1);
    }

    /** A MOTION that names a SECTION of 1 2 3 4, and a change that is done above it: where it is then, and the BILL's end when it is done, too. */
    static void settled(String sentence, String named, String change, long place, int... words) {
        String calls = "house 3 / " + PARTIES + "up 1 2 3 4 / asks 1 / act 0 0 0 0 / act " + named + " / act " + change + " / vote / ";
        edge(sentence + ": " + named + ", then " + change, calls + "motion 1 2", place);
        for (int i = 0; i <= words.length; i++) {
            edge(sentence + ": " + named + ", then " + change + ", both done", calls + "vote / word 0 " + i, i < words.length ? words[i] : NONE);
        }
    }

    static void changes() {
        settled("2: one goes ahead of it", "1 1 2 0", "1 2 1 0", 1, 1, 4);
        settled("2: one goes ahead of it", "2 1 2 50", "1 2 0 0", 1, 2, 50, 3, 4);
        settled("2: one goes ahead of it", "3 1 3 50", "1 2 0 0", 2, 2, 3, 50);
        settled("2: one goes behind it", "1 1 2 0", "1 2 3 0", 2, 1, 2);
        settled("2: one goes behind it", "2 1 0 50", "1 2 1 0", 0, 50, 1, 3, 4);
        settled("2: one goes behind it", "3 1 1 50", "1 2 2 0", 1, 1, 50, 4);
        settled("2: it goes", "1 1 2 0", "1 2 2 0", NONE, 1, 2, 4);
        settled("2: it goes, a PUT ahead of it, too", "2 1 2 50", "1 2 2 0", NONE, 1, 2, 4);
        settled("2: it goes", "3 1 3 50", "1 2 3 0", NONE, 1, 2, 3);
        settled("2: the first goes", "3 1 0 50", "1 2 0 0", NONE, 2, 3, 4);
        settled("2: one comes ahead of it", "1 1 2 0", "2 2 1 60", 3, 1, 60, 2, 4);
        settled("2: one comes just ahead of it", "1 1 2 0", "2 2 2 60", 3, 1, 2, 60, 4);
        settled("2: one comes behind it", "1 1 2 0", "2 2 3 60", 2, 1, 2, 60, 4);
        settled("2: one comes behind all", "1 1 3 0", "2 2 4 60", 3, 1, 2, 3, 60);
        settled("2: one comes just ahead of a PUT's", "2 1 2 50", "2 2 2 60", 3, 1, 2, 60, 50, 3, 4);
        settled("2: one comes behind a PUT's", "2 1 2 50", "2 2 3 60", 2, 1, 2, 50, 3, 60, 4);
        settled("2: one comes behind all, a PUT ahead of the last", "2 1 3 50", "2 2 4 60", 3, 1, 2, 3, 50, 4, 60);
        settled("2: one comes just ahead of it", "3 1 0 50", "2 2 0 60", 1, 60, 50, 2, 3, 4);
        settled("2: a PUT behind all stays so: one comes", "2 1 4 50", "2 2 0 60", 5, 60, 1, 2, 3, 4, 50);
        settled("2: a PUT behind all stays so: one comes behind all", "2 1 4 50", "2 2 4 60", 5, 1, 2, 3, 4, 60, 50);
        settled("2: a PUT behind all stays so: one goes", "2 1 4 50", "1 2 0 0", 3, 2, 3, 4, 50);
        settled("2: a PUT behind all stays so: the last goes", "2 1 4 50", "1 2 3 0", 3, 1, 2, 3, 50);
        settled("2: another WORD: still the same SECTION", "1 1 2 0", "3 2 2 60", 2, 1, 2, 4);
        settled("2: another WORD: still the same SECTION", "2 1 2 50", "3 2 2 60", 2, 1, 2, 50, 60, 4);
        settled("2: another WORD: still the same SECTION", "3 1 2 50", "3 2 2 60", 2, 1, 2, 50, 4);
        settled("2: another WORD elsewhere", "1 1 2 0", "3 2 1 60", 2, 1, 60, 4);
        settled("2: a PUT behind all stays so: another WORD", "2 1 4 50", "3 2 3 60", 4, 1, 2, 3, 60, 50);
        String all = "house 2 / " + PARTIES + "up 7 / asks 1 / act 0 0 0 0 / ";
        edge("2: a PUT behind all stays so when all are gone", "house 3 / " + PARTIES + "up 7 / asks 1 / act 0 0 0 0 / act 2 1 1 9 / act 1 2 0 0 / vote / motion 1 2", 0);
        edge("2: a PUT ahead of the one that goes is GONE, though none is left", "house 3 / " + PARTIES + "up 7 / asks 1 / act 0 0 0 0 / act 2 1 0 9 / act 1 2 0 0 / vote / motion 1 2", NONE);
        edge("2: one that is not CARRIED moves none", "house 3 / " + PARTIES + "up 7 8 / act 0 0 0 0 / act 1 1 1 9 / act 2 2 0 9 / vote / motion 1 2", 1);
        edge("2: one that is taken back moves none", "house 3 / " + PARTIES + "up 7 8 / act 0 0 0 0 / act 1 1 1 9 / act 2 2 0 9 / yield / motion 1 2", 1);
        edge("2: the last SECTION goes", all + "act 1 1 0 0 / vote / billTold 0 1", 0);
        edge("2: a GONE one may be CARRIED", "house 3 / " + PARTIES + "up 7 8 / asks 1 / act 0 0 0 0 / act 1 1 0 0 / act 1 2 0 0 / vote / vote", 1);
        edge("2: a GONE one has its WORD", "house 3 / " + PARTIES + "up 7 8 / asks 1 / act 0 0 0 0 / act 2 1 0 9 / act 1 2 0 0 / vote / motion 1 3", 9);
        edge("2: a GONE one has its mover", "house 3 / " + PARTIES + "up 7 8 / asks 1 / act 0 0 0 0 / act 2 1 0 9 / act 1 2 0 0 / vote / motion 1 1", 1);
        edge("2: GONE stays GONE when others come", "house 4 / " + PARTIES + "up 7 8 / asks 1 / act 0 0 0 0 / act 3 1 0 9 / act 2 2 2 5 / act 1 3 0 0 / vote / vote / motion 1 2", NONE);
    }

    static void fullBill() {
        String ten = "house 3 / " + PARTIES + "up 1 2 3 4 5 6 7 8 9 10 / asks 1 / act 0 0 0 0 / ";
        edge("4: a PUT in a BILL of 10 is CARRIED", ten + "act 2 1 0 50 / vote", 1);
        edges("4: but not done", ten + "act 2 1 # 50 / vote / billTold 0 1", 10, "0", "5", "10");
        edge("4: but not done", ten + "act 2 1 0 50 / vote / word 0 0", 1);
        edge("4: but not done", ten + "act 2 1 9 50 / vote / word 0 9", 10);
        edge("4: but not done: others stay", ten + "act 1 1 4 0 / act 2 2 0 50 / vote / motion 1 2", 4);
        edge("4: but not done: those TOLD stay", ten + "tell 1 0 0 / act 2 1 0 50 / vote / count 10", 1);
        edge("4: a PUT behind all of a BILL of 10 names 10", ten + "act 2 1 10 50 / motion 1 2", 10);
        edge("4: a PUT in a BILL of 9 is done", "house 2 / up 1 2 3 4 5 6 7 8 9 / asks 1 / act 0 0 0 0 / act 2 0 9 50 / vote / word 0 9", 50);
        edge("4: a PUT when one of 10 went", ten + "act 2 1 10 50 / act 1 2 0 0 / vote / vote / word 0 9", 50);
        edge("4: REPLACE in a BILL of 10 is done", ten + "act 3 1 9 50 / vote / word 0 9", 50);
        edge("4: AMEND in a BILL of 10 is done", ten + "act 1 1 9 0 / vote / billTold 0 1", 9);
    }

    static void voted() {
        edges("23: ahead of any", "voted #", 0, "0", "1", "3");
        edge("23: NONE ahead of any", "voted 2", NONE);
        refused("23: no such what", "voted #", BAD, outside(4));
        refused("23: no such what", "house 1 / act 6 0 0 0 / vote / voted #", BAD, outside(4));
        String one = "house 3 / ask 0 1 / ask 1 1 / ask 2 2 / act 6 0 0 0 / vote / ";
        edge("23: 0 yes", one + "voted 0", 2);
        edge("23: 1 no", one + "voted 1", 1);
        edge("23: 2 the KIND", one + "voted 2", 6);
        edge("23: 3 CARRIED", one + "voted 3", 1);
        edge("23: 3 not CARRIED", "house 2 / act 6 0 0 0 / vote / voted 3", 0);
        edges("23: a vote() that was refused is none", one + "vote / voted #", 2, "0");
        edges("23: a vote() that was refused is none", one + "vote / voted #", 6, "2");
        edge("23: ahead of any that was not refused", "vote / voted 2", NONE);
        edge("23: a KIND 0", "house 1 / up 7 / act 0 0 0 0 / vote / voted 2", 0);
        edges("23: each KIND", "house 1 / up 7 / act 0 0 0 0 / act # 0 0 1 / vote / voted 2", 5, "5");
        edge("23: foresee() is no vote()", "house 1 / up 7 / tell 1 0 0 / ask 0 1 / foresee 0 0 / voted 2", NONE);
        edge("23: best() is no vote()", one + "up 7 / tell 1 0 0 / best 0 / voted 2", 6);
        edge("23: 1 of a vote without no, behind one with", "house 2 / act 6 0 0 0 / vote / asks 1 / act 6 0 0 0 / vote / voted 1", 0);
        edge("23: 0 of a vote without yes, behind one with", "house 2 / act 6 0 0 0 / vote / asks 2 / act 6 0 0 0 / vote / voted 0", 0);
        edge("23: 0 of a vote without yes", "house 2 / act 6 1 0 0 / asks 2 / vote / voted 0", 0);
    }

    static void would() {
        refused("24: THE PILE is empty", "house 2 / up 7 / would 0", NONE);
        refused("24: THE PILE is empty again", "house 2 / up 7 / act 0 0 0 0 / yield / would 0", NONE);
        refused("24: no such MEMBER", "house 2 / up 7 / act 0 0 0 0 / would #", BAD, outside(2));
        refused("24: no such MEMBER, THE PILE is empty", "house 2 / would #", BAD, outside(2));
        edge("24: 0, neither", "house 2 / up 7 / act 0 0 0 0 / would 1", 0);
        edge("24: on THE TOP", "house 2 / up 7 / like 0 7 5 / act 0 0 0 0 / act 4 0 0 0 / would 0", 2);
        edge("24: now", "house 2 / up 7 / act 0 0 0 0 / like 1 7 5 / would 1", 1);
        refused("24: would() asks nobody", "house 2 / up 7 / ask 0 1 / act 0 0 0 0 / would 0", 1);
    }

    static void motion() {
        String six = "house 3 / up 7 8 / act 0 2 1 5 / act 1 1 1 5 / act 2 0 2 5 / act 3 2 0 6 / act 4 2 0 7 / act 5 1 0 7 / motion ";
        int[][] want = {{0, 2, NONE, NONE, 0}, {1, 1, 1, NONE, 1}, {2, 0, 2, 5, 2}, {3, 2, 0, 6, 3}, {4, 2, NONE, NONE, 4}, {5, 1, NONE, NONE, 5}};
        for (int i = 0; i < want.length; i++) for (int w = 0; w < 5; w++) edge("25: MOTION " + i + ", " + w, six + i + " " + w, want[i][w]);
        refused("25: no such MOTION", six + "# 0", -100000, outside(6));
        refused("25: no such what", six + "0 #", -100000, outside(5));
        refused("25: no such MOTION: THE PILE is empty", "motion # 0", -100000, outside(0));
        refused("25: no such MOTION: THE PILE is full", EIGHT + "motion # 0", -100000, outside(8));
        edge("25: the 8th", EIGHT + "motion 7 0", 4);
        edge("25: a RULE: its TEXT", "house 1 / read rank 1;may 1;pass 1;quorum 1; / act 6 0 5 1 / motion 0 3", 1);
        edge("25: a RULE: TEXT 0", "house 1 / act 6 0 5 0 / motion 0 3", 0);
        edge("25: a RULE: no SECTION", "house 1 / act 6 0 5 0 / motion 0 2", NONE);
        edge("25: its rank now, not as it was", "house 2 / rule rank party*100+minute*10+depth;may 1;pass 1;quorum 1; / act 6 1 0 0 / motion 0 4", 131);
        edge("25: its rank now, not as it was", "house 2 / rule rank party*100+minute*10+depth;may 1;pass 1;quorum 1; / act 6 1 0 0 / day / motion 0 4", 101);
        edge("25: a rank that is -100000 is a rank", "house 1 / rule rank -1000*100;may 1;pass 1;quorum 1; / act 6 0 0 0 / motion 0 4", -100000);
    }

    static void yielded() {
        refused("26: THE PILE is empty", "house 1 / up 7 / yield", STATE);
        refused("26: THE PILE is empty again", "house 1 / up 7 / act 0 0 0 0 / yield / yield", STATE);
        edge("26: none is left", "house 1 / up 7 / act 0 0 0 0 / yield", 0);
        edge("26: how many are left", EIGHT + "yield", 7);
        edge("26: THE TOP, no other", "house 2 / up 7 / act 0 1 0 0 / act 4 0 0 0 / yield / motion 0 1", 1);
        edge("26: its mover need not be THERE", "house 1 / up 7 / act 0 0 0 0 / comes 0 false / yield", 0);
        edge("26: without a MINUTE", "house 1 / spend 99 / act 6 0 0 0 / yield", 0);
        edge("26: the BILL stays UP", "house 1 / up 7 / act 0 0 0 0 / yield / billTold 0 0", 2);
    }

    static void day() {
        edge("Terms: DAY 0 at first", "count 6", 0);
        edge("27: the DAY", "day", 1);
        edge("27: the next one", "2*day", 2);
        edge("27: THE MINUTE is 0", "house 1 / spend 7 / day / count 7", 0);
        edge("27: THE PILE stays", "house 1 / up 7 / act 0 0 0 0 / act 4 0 0 0 / day / count 4", 2);
        edge("27: those TOLD stay", "house 1 / up 7 / tell 1 0 0 / day / count 10", 1);
        edge("27: the BILL stays UP", "up 7 / day / count 8", 0);
        edge("27: as many DAYS as calls", "512*day", 512);
        late("Terms: DAYS are 0 .. 999", "999*day", 999);
        lateRefused("27: FULL: 999", "1000*day", FULL);
        lateRefused("27: FULL: THE MINUTE stays, too", "house 1 / 999*day / spend 3 / day", FULL);
    }

    public static void main(String[] args) {
        numbers();
        badAhead();
        whys();
        leastWhy();
        ranks();
        minutes();
        votes();
        choices();
        outcomes();
        changes();
        fullBill();
        voted();
        would();
        motion();
        yielded();
        day();
        end("ActsEdgesTest");
    }
}
