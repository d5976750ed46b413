/** The edges of promises 1 to 16, and of "Terms" where it tells of MEMBERS, BILLS and THE CALENDAR. */
public final class MembersAndBillsEdgesTest extends Edges {
    static void newObject() {
        edges("1: no MEMBERS, no BILLS, no MOTIONS, no bytes, DAY 0, THE MINUTE 0, none TOLD, none ON THE CALENDAR",
            "count #", 0, "0", "1", "2", "4", "5", "6", "7", "10", "11");
        edge("1: TEXT 0 alone", "count 3", 1);
        edge("1: no BILL is UP", "count 8", NONE);
        edge("1: TEXT 0 is THE RULE", "count 9", 0);
        edges("1: no MEMBER", "memberTold 0 #", BAD, "0", "1", "2", "3");
        edges("1: no BILL", "billTold 0 #", BAD, "0", "1", "2", "3");
        edge("1: no MOTION", "motion 0 0", -100000);
        edge("1: no vote() yet", "voted 2", NONE);
        edges("1: all TRAYS are missing", "cell # 0 0", -11, "0", "1", "2", "3");
    }

    static void member() {
        edges("2: a PARTY is 0 .. 3", "member #", 0, "0", "3");
        refused("2: no such PARTY", "house 2 / member #", BAD, outside(4));
        edge("2: its number", "house 2 / member 3", 2);
        edge("Terms: the 15th MEMBER has room", "15*member 0", 14);
        refused("Terms: MEMBERS, 15 at most", "16*member 0", FULL);
        refused("2: BAD ahead of FULL", "15*member 0 / member #", BAD, outside(4));
        edge("1: a MEMBER has its PARTY", "member 3 / memberTold 0 0", 3);
        edge("1: the 15th has its PARTY", "14*member 0 / member 2 / memberTold 14 0", 2);
        edge("1: a MEMBER is THERE at first", "member 0 / memberTold 0 1", 1);
        edge("1: it is in no PAIR at first", "member 0 / memberTold 0 2", NONE);
        edge("1: nobody is asked at first", "member 0 / memberTold 0 3", 0);
    }

    static void like() {
        edges("1: a LIKE is 0 at first", "member 0 / like 0 # 5", 0, "1", "60");
        edges("1: LIKES are -9 .. 9", "member 0 / like 0 7 # / like 0 7 0", -9, "-9");
        edges("1: LIKES are -9 .. 9", "member 0 / like 0 7 # / like 0 7 0", 9, "9");
        edge("3: how much it did, the latest", "member 0 / like 0 7 3 / like 0 7 -2 / like 0 7 -2", -2);
        edge("3: of each WORD", "member 0 / like 0 1 3 / like 0 2 0", 0);
        edge("3: of each MEMBER", "house 2 / like 0 1 3 / like 1 1 0", 0);
        refused("3: no such like", "member 0 / like 0 7 4 / like 0 7 #", -100, "low", "-10", "10", "high");
        refused("3: no such WORD", "member 0 / like 0 1 4 / like 0 60 4 / like 0 # 1", -100, "low", "-1", "0", "61", "high");
        refused("3: no such MEMBER", "house 3 / like # 7 1", -100, outside(3));
        refused("3: no such MEMBER", "15*member 0 / like # 7 1", -100, outside(15));
    }

    static void comes() {
        edge("4: THERE, as it was", "member 0 / comes 0 true", 0);
        edge("4: it was otherwise", "member 0 / comes 0 false", 1);
        edge("4: not THERE, as it was", "member 0 / comes 0 false / comes 0 false", 0);
        edge("4: it was otherwise", "member 0 / comes 0 false / comes 0 true", 1);
        edge("4: how many are THERE", "house 3 / comes 2 false / count 1", 2);
        edge("4: nobody is THERE", "house 1 / comes 0 false / count 1", 0);
        refused("4: no such MEMBER", "house 2 / comes # false", BAD, outside(2));
        refused("4: no such MEMBER", "house 2 / comes 0 false / comes 1 false / comes # true", BAD, outside(2));
    }

    static void pair() {
        edge("5: a PAIR", "house 2 / pair 1 0", 1);
        edge("5: the first and the last", "15*member 0 / pair 0 14 / memberTold 14 2", 0);
        refused("5: a = b", "house 2 / pair # #", BAD, "0", "1");
        refused("5: a = b, BAD ahead of STATE", "house 2 / pair 0 1 / pair # #", BAD, "0", "1");
        refused("5: no such MEMBER", "house 2 / pair 0 #", BAD, outside(2));
        refused("5: no such MEMBER", "house 2 / pair # 0", BAD, outside(2));
        refused("5: no such MEMBER, BAD ahead of STATE", "house 2 / pair 0 1 / pair 0 #", BAD, outside(2));
        refused("5: the first one is in a PAIR", "house 3 / pair 0 1 / pair 0 2", STATE);
        refused("5: the other one is in a PAIR", "house 3 / pair 0 1 / pair 2 1", STATE);
        refused("5: both are in this PAIR", "house 3 / pair 0 1 / pair 1 0", STATE);
        edge("5: another PAIR", "house 4 / pair 0 1 / pair 2 3", 1);
        edge("6: a PAIR that ended may come again", "house 2 / pair 0 1 / part 1 / pair 0 1", 1);
    }

    static void part() {
        edge("6: the other one", "house 3 / pair 2 0 / part 0", 2);
        edge("6: the other one", "house 3 / pair 2 0 / part 2", 0);
        edges("6: it ends for both", "house 3 / pair 2 0 / part 2 / memberTold # 2", NONE, "0", "2");
        refused("6: it is in none", "house 3 / pair 2 0 / part 1", STATE);
        refused("6: it is in none any more", "house 2 / pair 0 1 / part 0 / part #", STATE, "0", "1");
        refused("6: no such MEMBER", "house 2 / pair 0 1 / part #", BAD, outside(2));
    }

    static void ask() {
        edges("7: asked yes (1), no (2) or not (0)", "member 0 / ask 0 #", 0, "0", "1", "2");
        edge("7: how it was", "member 0 / ask 0 2 / ask 0 0", 2);
        edge("7: how it was", "member 0 / ask 0 1 / ask 0 2", 1);
        edge("7: how it was", "member 0 / ask 0 1 / ask 0 0 / ask 0 1", 0);
        refused("7: no such how", "member 0 / ask 0 1 / ask 0 #", BAD, outside(3));
        refused("7: no such MEMBER", "house 2 / ask # 1", BAD, outside(2));
    }

    static void memberTold() {
        refused("8: no such MEMBER", "house 2 / memberTold # 0", BAD, outside(2));
        refused("8: no such what", "house 2 / memberTold 0 #", BAD, outside(4));
        edge("8: 0 PARTY", "house 3 / memberTold 2 0", 2);
        edge("8: 1 whether it is THERE", "house 3 / comes 2 false / memberTold 2 1", 0);
        edge("8: 2 the one with which it is in a PAIR", "house 3 / pair 2 1 / memberTold 2 2", 1);
        edge("8: 2 MEMBER 0, with which it is in a PAIR", "house 3 / pair 2 0 / memberTold 2 2", 0);
        edge("8: 3 how it is asked", "house 3 / ask 2 2 / memberTold 2 3", 2);
    }

    static void bill() {
        edge("9: its number", "bill", 0);
        edge("9: without SECTIONS", "bill / billTold 0 1", 0);
        edge("9: IN COMMITTEE at first", "bill / billTold 0 0", 0);
        edge("9: not ON THE CALENDAR at first", "bill / billTold 0 2", NONE);
        edge("9: no NAMES at first", "bill / billTold 0 3", 0);
        edge("Terms: the 8th BILL has room", "8*bill", 7);
        refused("Terms: BILLS, 8 at most", "9*bill", FULL);
        refused("9: one that ended makes no room", "house 1 / up / act 0 0 0 0 / vote / 8*bill", FULL);
    }

    static void section() {
        edges("Terms: WORDS are 1 .. 60", "bill / section 0 #", 1, "1", "60");
        refused("10: no such WORD", "draft 5 / section 0 #", BAD, "low", "-1", "0", "61", "high");
        refused("10: no such BILL", "draft 5 / section # 7", BAD, outside(1));
        refused("10: no such BILL", "8*bill / section # 7", BAD, outside(8));
        edge("Terms: the 10th SECTION has room", "bill / 10*section 0 7", 10);
        edge("10: it comes behind all", "bill / 9*section 0 7 / section 0 8 / word 0 9", 8);
        refused("Terms: SECTIONS, 10 at most", "bill / 10*section 0 7 / section 0 8", FULL);
        refused("10: BAD ahead of FULL", "bill / 10*section 0 7 / section 0 #", BAD, "0", "61");
        refused("10: ON THE CALENDAR", "draft 5 / report 0 / section 0 7", STATE);
        refused("10: UP", "up 5 / section 0 7", STATE);
        refused("10: PASSED", "house 1 / up 5 / ask 0 1 / act 0 0 0 0 / vote / section 0 7", STATE);
        refused("10: ENDED", "house 1 / up 5 / act 0 0 0 0 / vote / section 0 7", STATE);
        refused("10: STATE ahead of FULL", "up 1 2 3 4 5 6 7 8 9 10 / section 0 7", STATE);
        refused("10: BAD ahead of STATE", "up 5 / section 0 #", BAD, "0", "61");
        edge("10: IN COMMITTEE again", "house 1 / up 5 / act 0 0 0 0 / act 5 0 0 0 / vote / section 0 7", 2);
        edge("10: full, then one less", "house 1 / up 1 2 3 4 5 6 7 8 9 10 / ask 0 1 / act 0 0 0 0 / act 1 0 0 0 / vote / act 5 0 0 0 / vote / section 0 7", 10);
    }

    static void billTold() {
        refused("11: no such BILL", "draft 5 / billTold # 0", BAD, outside(1));
        refused("11: no such what", "draft 5 / billTold 0 #", BAD, outside(4));
        edge("11: 0 IN COMMITTEE", "bill / billTold 0 0", 0);
        edge("11: 0 ON THE CALENDAR", "bill / report 0 / billTold 0 0", 1);
        edge("11: 0 UP", "up / billTold 0 0", 2);
        edge("11: 0 PASSED", "house 1 / up / ask 0 1 / act 0 0 0 0 / vote / billTold 0 0", 3);
        edge("11: 0 ENDED", "house 1 / up / ask 0 2 / act 0 0 0 0 / vote / billTold 0 0", 4);
        edge("11: 1 SECTIONS, 10 of them", "draft 1 2 3 4 5 6 7 8 9 10 / billTold 0 1", 10);
        edge("11: 2 the first place is 0", "bill / report 0 / billTold 0 2", 0);
        edge("11: 2 the last of 8", "8*bill / report 7 / report 6 / report 5 / report 4 / report 3 / report 2 / report 1 / report 0 / billTold 0 2", 7);
        edge("11: 2 NONE, when UP", "up / billTold 0 2", NONE);
        edge("11: 2 a place nearer, when the first is UP", "2*bill / report 0 / report 1 / call / billTold 1 2", 0);
        edge("11: 3 NAMES, not by report()", "bill / report 0 / billTold 0 3", 0);
        edge("11: 3 all NAMES stay ON THE CALENDAR", "house 3 / bill / sign 0 0 / sign 0 2 / billTold 0 3", 2);
        edge("11: 3 and when UP", "house 3 / bill / sign 0 0 / report 0 / call / billTold 0 3", 1);
        edge("4: IN COMMITTEE by BACK, its NAMES are gone", "house 3 / up 5 / act 0 0 0 0 / act 5 0 0 0 / vote / sign 0 0 / report 0 / call / act 0 0 0 0 / act 5 0 0 0 / vote / billTold 0 3", 0);
    }

    static void word() {
        edge("12: the first", "draft 7 60 / word 0 0", 7);
        edge("12: the last", "draft 7 60 / word 0 1", 60);
        edge("12: the 10th", "draft 1 2 3 4 5 6 7 8 9 60 / word 0 9", 60);
        refused("12: there is none such", "draft 7 60 / word 0 #", NONE, outside(2));
        refused("12: there is none such in a full BILL", "draft 1 2 3 4 5 6 7 8 9 60 / word 0 #", NONE, outside(10));
        refused("12: there is none such in an empty BILL", "bill / word 0 0", NONE);
        refused("12: no such BILL", "draft 7 / word # 0", BAD, outside(1));
        refused("12: no such BILL, no such SECTION", "draft 7 / word # 1", BAD, outside(1));
        edge("12: one that went is none such", "house 1 / up 7 8 / ask 0 1 / act 0 0 0 0 / act 1 0 0 0 / vote / word 0 1", NONE);
    }

    static void worth() {
        String ten = "bill / 10*section 0 7 / member 0 / ";
        edge("13: of no SECTIONS", "member 0 / like 0 7 9 / bill / worth 0 0", 0);
        edge("13: the most", ten + "like 0 7 9 / worth 0 0", 90);
        edge("13: the least", ten + "like 0 7 -9 / worth 0 0", -90);
        edge("13: of WORDS that are not liked", ten + "like 0 8 9 / worth 0 0", 0);
        edge("13: WORDS 1 and 60", "member 0 / like 0 1 4 / like 0 60 -1 / draft 1 60 60 / worth 0 0", 2);
        edge("13: another MEMBER's LIKES don't matter", "house 2 / like 1 7 9 / draft 7 / worth 0 0", 0);
        edge("13: of the 8th BILL to the 15th MEMBER", "15*member 0 / like 14 7 3 / 7*bill / draft 7 / worth 7 14", 3);
        refused("13: no such BILL", "house 2 / draft 7 / worth # 0", NO, outside(1));
        refused("13: no such MEMBER", "house 2 / draft 7 / worth 0 #", NO, outside(2));
    }

    static void report() {
        edge("14: its place", "bill / report 0", 0);
        edge("14: behind all", "3*bill / report 2 / report 0 / report 1", 2);
        edge("14: the 8th", "8*bill / report 0 / report 1 / report 2 / report 3 / report 4 / report 5 / report 6 / report 7", 7);
        edge("14: its place, when one left", "3*bill / report 0 / report 1 / call / report 2", 1);
        edge("14: without SECTIONS, too", "bill / report 0 / billTold 0 0", 1);
        refused("14: no such BILL", "bill / report #", BAD, outside(1));
        refused("14: it is ON THE CALENDAR", "bill / report 0 / report 0", STATE);
        refused("14: it is UP", "up 5 / report 0", STATE);
        refused("14: it is PASSED", "house 1 / up 5 / ask 0 1 / act 0 0 0 0 / vote / report 0", STATE);
        refused("14: it is ENDED", "house 1 / up 5 / act 0 0 0 0 / vote / report 0", STATE);
        edge("14: it is IN COMMITTEE again", "house 1 / up 5 / act 0 0 0 0 / act 5 0 0 0 / vote / report 0", 0);
    }

    static void sign() {
        edge("15: how many NAMES", "house 4 / bill / sign 0 3", 1);
        edge("15: how many NAMES", "house 4 / bill / sign 0 3 / sign 0 0", 2);
        edge("15: just half is not more than half", "house 4 / bill / sign 0 3 / sign 0 0 / billTold 0 0", 0);
        edge("15: one more is", "house 4 / bill / sign 0 3 / sign 0 0 / sign 0 1 / billTold 0 0", 1);
        edge("15: how many NAMES, by the last one, too", "house 4 / bill / sign 0 3 / sign 0 0 / sign 0 1", 3);
        edge("15: 1 of 3", "house 3 / bill / sign 0 0 / billTold 0 0", 0);
        edge("15: 2 of 3", "house 3 / bill / sign 0 0 / sign 0 1 / billTold 0 0", 1);
        edge("15: 1 of 1", "house 1 / bill / sign 0 0 / billTold 0 2", 0);
        edge("15: 7 of 15", "house 15 / bill / sign 0 0 / sign 0 1 / sign 0 2 / sign 0 3 / sign 0 4 / sign 0 5 / sign 0 14 / billTold 0 0", 0);
        edge("15: 8 of 15", "house 15 / bill / sign 0 0 / sign 0 1 / sign 0 2 / sign 0 3 / sign 0 4 / sign 0 5 / sign 0 6 / sign 0 14 / billTold 0 0", 1);
        edge("15: half of all MEMBERS, not of those THERE", "house 3 / comes 1 false / comes 2 false / bill / sign 0 0 / billTold 0 0", 0);
        edge("15: one that is not THERE signs", "house 3 / comes 1 false / bill / sign 0 1", 1);
        edge("15: half of all MEMBERS as they are now", "house 2 / bill / sign 0 0 / member 0 / sign 0 1 / billTold 0 0", 1);
        edge("15: it comes behind all", "house 1 / 2*bill / report 1 / sign 0 0 / billTold 0 2", 1);
        edge("15: each BILL has its NAMES", "house 3 / 2*bill / sign 0 0 / sign 1 0", 1);
        refused("15: no such BILL", "house 3 / bill / sign # 0", BAD, outside(1));
        refused("15: no such MEMBER", "house 3 / bill / sign 0 #", BAD, outside(3));
        refused("15: no such MEMBER of 15", "house 15 / bill / sign 0 #", BAD, "15", "16", "31", "32", "33");
        refused("15: BAD ahead of STATE", "house 3 / up / sign 0 #", BAD, outside(3));
        refused("15: it did", "house 3 / bill / sign 0 1 / sign 0 1", STATE);
        refused("15: a BILL that is ON THE CALENDAR", "house 3 / bill / report 0 / sign 0 1", STATE);
        refused("15: a BILL that came ON THE CALENDAR by NAMES", "house 3 / bill / sign 0 1 / sign 0 2 / sign 0 0", STATE);
        refused("15: a BILL that is UP", "house 3 / up / sign 0 1", STATE);
        refused("15: a BILL that is PASSED", "house 1 / up / ask 0 1 / act 0 0 0 0 / vote / sign 0 0", STATE);
        refused("15: a BILL that is ENDED", "house 1 / up / act 0 0 0 0 / vote / sign 0 0", STATE);
        edge("15: it did, but its NAMES are gone by BACK", "house 3 / bill / sign 0 0 / report 0 / call / act 0 0 0 0 / act 5 0 0 0 / vote / sign 0 0", 1);
    }

    static void call() {
        edge("16: which", "2*bill / report 1 / call", 1);
        edge("16: the first of THE CALENDAR", "3*bill / report 2 / report 0 / call", 2);
        edge("16: it is on THE CALENDAR no more", "3*bill / report 2 / report 0 / call / count 11", 1);
        edge("16: the next one", "house 1 / 3*bill / report 2 / report 0 / call / act 0 0 0 0 / vote / call", 0);
        edge("16: all 8 in their order", "house 1 / 8*bill / report 7 / report 0 / report 1 / report 2 / report 3 / report 4 / report 5 / report 6"
            + " / call / act 0 0 0 0 / vote".repeat(7) + " / call", 6);
        refused("16: THE CALENDAR is empty", "bill / call", STATE);
        refused("16: one is UP", "2*bill / report 0 / report 1 / call / call", STATE);
        refused("16: one is UP, and THE CALENDAR is empty", "up / call", STATE);
        refused("16: THE CALENDAR is empty again", "house 1 / up / act 0 0 0 0 / vote / call", STATE);
        edge("16: one that went IN COMMITTEE comes again behind the others",
            "house 1 / 2*bill / report 0 / report 1 / call / act 0 0 0 0 / act 5 0 0 0 / vote / report 0 / call", 1);
    }

    public static void main(String[] args) {
        newObject();
        member();
        like();
        comes();
        pair();
        part();
        ask();
        memberTold();
        bill();
        section();
        billTold();
        word();
        worth();
        report();
        sign();
        call();
        end("MembersAndBillsEdgesTest");
    }
}
