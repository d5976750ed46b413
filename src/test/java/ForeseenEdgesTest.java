/** The edges of promises 28 to 33, and of "Terms" 5: what is TOLD, ORDERS, THE BEST ORDER, and TWO BILLS brought to one. */
public final class ForeseenEdgesTest extends Edges {
    /** The number of an ORDER. */
    static int order(int... ones) {
        int sum = 0;
        for (int i = ones.length - 1; i >= 0; i--) sum = sum * 6 + ones[i];
        return sum;
    }

    static void tell() {
        String up = "house 1 / up 7 8 / ";
        edge("28: how many", up + "tell 1 0 0", 1);
        edge("28: the 5th has room", up + "5*tell 1 0 0", 5);
        refused("Terms: TOLD, 5 at most", up + "6*tell 1 0 0", FULL);
        refused("28: no such KIND", up + "tell # 0 1", BAD, "low", "-1", "0", "4", "5", "6", "7", "high");
        refused("28: no such WORD", up + "tell 2 0 #", BAD, "low", "-1", "0", "61", "high");
        refused("28: no such WORD", up + "tell 3 0 #", BAD, "low", "-1", "0", "61", "high");
        refused("28: AMEND: no such SECTION", up + "tell 1 # 1", BAD, outside(2));
        refused("28: PUT: no such SECTION", up + "tell 2 # 1", BAD, outside(3));
        refused("28: REPLACE: no such SECTION", up + "tell 3 # 1", BAD, outside(2));
        edges("28: AMEND: 0 .. SECTIONS less 1", up + "tell 1 # 1", 1, "0", "1");
        edges("28: PUT: as many as these, too", up + "tell 2 # 1", 1, "0", "2");
        edges("28: REPLACE: 0 .. SECTIONS less 1", up + "tell 3 # 1", 1, "0", "1");
        edges("28: WORDS 1 .. 60", up + "tell 2 0 #", 1, "1", "60");
        edges("28: WORDS 1 .. 60", up + "tell 3 0 #", 1, "1", "60");
        edges("28: AMEND: the WORD does not matter", up + "tell 1 0 #", 1, "low", "0", "61", "high");
        refused("28: no SECTIONS", "up / tell # 0 1", BAD, "1", "3");
        edge("28: no SECTIONS: PUT behind all", "up / tell 2 0 1", 1);
        edge("28: a PUT in a BILL of 10", "up 1 2 3 4 5 6 7 8 9 10 / tell 2 10 1", 1);
        refused("28: a PUT in a BILL of 10: no such SECTION", "up 1 2 3 4 5 6 7 8 9 10 / tell 2 11 1", BAD);
        refused("28: no BILL is UP", "house 1 / draft 7 8 / report 0 / tell 1 0 0", STATE);
        refused("28: no BILL is UP any more", up + "act 0 0 0 0 / vote / tell 1 0 0", STATE);
        refused("28: BAD (KIND) ahead of STATE", "draft 7 / tell # 0 1", BAD, "0", "4");
        refused("28: BAD (WORD) ahead of STATE", "draft 7 / tell # 0 61", BAD, "2", "3");
        refused("28: BAD ahead of FULL", up + "5*tell 1 0 0 / tell #", BAD, "0 0 1", "1 2 0", "2 3 1", "2 0 0", "3 0 61");
        edge("28: THE PILE does not matter", up + "act 6 0 0 0 / tell 1 0 0", 1);
        edge("28: no MINUTE is needed", "house 1 / spend 100 / up 7 / tell 1 0 0", 1);
        edge("28: they are not moved", up + "tell 1 0 0 / count 4", 0);
    }

    static void toldAreGone() {
        String up = "house 1 / up 7 8 / 2*tell 1 0 0 / act 0 0 0 0 / ";
        edges("28: gone when one of THE PILE is done", up + "ask 0 1 / act # 0 0 9 / vote / count 10", 0, "1", "2", "3");
        edge("28: gone by a REPLACE with the same WORD", up + "ask 0 1 / act 3 0 0 7 / vote / count 10", 0);
        edges("28: not when it is not CARRIED", up + "ask 0 2 / act # 0 0 9 / vote / count 10", 2, "1", "2", "3", "4", "5");
        edges("28: gone when the BILL is not UP any more", up + "ask 0 1 / act # 0 0 9 / vote / count 10", 0, "4", "5");
        edge("28: gone when the BILL is PASSED", up + "ask 0 1 / vote / count 10", 0);
        edge("28: gone when the BILL is ENDED", up + "ask 0 2 / vote / count 10", 0);
        edge("28: not when it is moved", up + "act 1 0 0 0 / count 10", 2);
        edge("28: not when it is taken back", up + "act 1 0 0 0 / yield / count 10", 2);
        edge("28: not by a RULE", "house 1 / up 7 8 / 2*tell 1 0 0 / act 6 0 0 0 / vote / count 10", 2);
        edge("28: there is room again", "house 1 / up 7 8 / 5*tell 1 0 0 / act 0 0 0 0 / act 3 0 0 9 / ask 0 1 / vote / tell 1 0 0", 1);
        edge("28: none for the next BILL", "house 1 / up 7 / tell 1 0 0 / act 0 0 0 0 / vote / up 8 / count 10", 0);
        edge("28: not by a GONE one", "house 4 / rule rank party;may 1;pass no<yes;quorum 1; / up 7 8 / asks 1 / act 0 0 0 0 / act 1 1 0 0 / act 1 2 0 0 / vote / tell 1 0 0 / vote / count 10", 1);
    }

    static void foresee() {
        String up = "house 1 / up 7 8 / like 0 7 4 / like 0 8 -1 / ";
        edge("29: none TOLD: what the BILL is worth", up + "foresee 0 0", 3);
        refused("29: none TOLD: no such order", up + "foresee # 0", NO, "low", "-1", "1", "6", "high");
        refused("29: no such MEMBER", up + "foresee 0 #", NO, outside(1));
        refused("29: no BILL is UP", "house 1 / draft 7 / report 0 / foresee 0 0", NO);
        refused("29: no BILL is UP any more", up + "tell 1 0 0 / act 0 0 0 0 / vote / foresee 0 0", NO);
        edge("29: one TOLD", up + "tell 1 1 0 / foresee 0 0", 4);
        refused("29: one TOLD: no such order", up + "tell 1 1 0 / foresee # 0", NO, "low", "-6", "-1", "1", "5", "6", "36", "high");
        String two = up + "tell 1 1 0 / tell 2 0 9 / like 0 9 2 / ";
        edges("29: two TOLD", two + "foresee # 0", 6, "" + order(0, 1), "" + order(1, 0));
        refused("29: one of two twice", two + "foresee # 0", NO, "" + order(0, 0), "" + order(1, 1));
        refused("29: one of two not named", two + "foresee # 0", NO, "" + order(0), "" + order(0, 2));
        edge("29: 0 as the last one is named by the shorter number", two + "foresee 1 0", 6);
        refused("29: a third of two", two + "foresee # 0", NO, "" + order(0, 2), "" + order(2, 1), "" + order(0, 1, 2), "" + order(1, 0, 1));
        refused("29: below 0", two + "foresee # 0", NO, "low", "-1", "-6", "-36");
        refused("29: far above", two + "foresee # 0", NO, "high", "" + (order(0, 1) + 36), "" + (order(0, 1) + 6 * 6 * 6 * 6 * 6));
        String five = "house 1 / up 1 1 1 1 1 / like 0 2 1 / like 0 1 -1 / 5*tell 3 0 2 / ";
        edges("29: five TOLD", five + "foresee # 0", -3, "" + order(0, 1, 2, 3, 4), "" + order(4, 3, 2, 1, 0), "" + order(2, 0, 4, 1, 3));
        refused("29: five TOLD, the digit 5", five + "foresee # 0", NO, "" + order(5, 1, 2, 3, 4), "" + order(0, 1, 2, 3, 5));
        refused("29: five TOLD, one twice", five + "foresee # 0", NO, "" + order(0, 1, 2, 3, 3), "" + order(4, 1, 2, 3, 4));
        refused("29: five TOLD, too few named", five + "foresee # 0", NO, "" + order(0, 1, 2, 3), "" + order(0, 1, 2, 4), "0");
        refused("29: five TOLD, one named too many", five + "foresee # 0", NO, "" + order(0, 1, 2, 3, 4, 1), "" + order(0, 1, 2, 3, 4, 5));
        refused("29: foresee() changes nothing", two + "foresee # 0", 6, "" + order(0, 1));
    }

    /** The worth of two that are TOLD and both CARRIED: SECTIONS 1 2 3 are liked by 1, 2, 4, WORD 50 by 9, WORD 60 by -9. */
    static void foreseen(String sentence, String first, String second, int worth) {
        String calls = "house 1 / up 1 2 3 / like 0 1 1 / like 0 2 2 / like 0 3 4 / like 0 50 9 / like 0 60 -9"
            + " / rule rank 1;may 1;pass 1;quorum 1; / tell " + first + " / tell " + second + " / foresee 6 0";
        edge(sentence + ": " + first + ", then " + second, calls, worth);
    }

    static void places() {
        foreseen("5: one goes ahead of it", "1 0 0", "1 2 0", 2);
        foreseen("5: one goes behind it", "1 2 0", "1 0 0", 2);
        foreseen("5: it goes, the other one is GONE", "1 1 0", "1 1 0", 5);
        foreseen("5: it goes, a PUT ahead of it is GONE", "1 1 0", "2 1 50", 5);
        foreseen("5: it goes, a REPLACE is GONE", "1 1 0", "3 1 50", 5);
        foreseen("5: the last goes, a PUT behind all stays so", "1 2 0", "2 3 50", 12);
        foreseen("5: one comes ahead of it", "2 0 50", "1 0 0", 15);
        foreseen("5: one comes behind it", "2 1 50", "1 0 0", 15);
        foreseen("5: one comes ahead of it", "2 1 50", "3 1 60", 5);
        foreseen("5: one comes ahead of it", "2 1 50", "1 2 0", 12);
        foreseen("5: another WORD, still the same SECTION", "3 1 50", "1 1 0", 5);
        foreseen("5: another WORD, then another one", "3 1 60", "3 1 50", 14);
    }

    static void votes() {
        String one = "house 2 / up 7 / like 0 9 5 / tell 3 0 9 / ";
        edge("5: CARRIED", one + "foresee 0 0", 5);
        edge("5: not CARRIED: yes and no are like", one + "like 1 9 -1 / foresee 0 0", 0);
        edge("5: by those who are THERE", one + "like 1 9 -1 / comes 1 false / foresee 0 0", 5);
        edge("5: without those in a PAIR", one + "member 0 / like 1 9 -1 / pair 1 2 / foresee 0 0", 5);
        edge("5: one that is asked votes so", one + "ask 0 2 / foresee 0 0", 0);
        edge("5: its worth to one that is not THERE", one + "like 1 9 3 / comes 0 false / foresee 0 0", 5);
        edge("5: without quorum", one + "comes 1 false / foresee 0 0", 5);
        edge("5: without quorum, nobody being THERE", one + "comes 0 false / comes 1 false / foresee 0 0", 0);
        edge("5: without MINUTES", "house 1 / spend 100 / up 7 / like 0 9 5 / tell 3 0 9 / foresee 0 0", 5);
        edge("5: it takes no MINUTE", one + "foresee 0 0 / count 7", 0);
        edge("5: the BILL stays as it is", one + "foresee 0 0 / word 0 0", 7);
        String ruled = "house 4 / rule rank 1;may 1;pass #;quorum 1; / up 7 / like 3 9 5 / tell 3 0 9 / act 0 3 0 0 / foresee 0 3";
        edges("5: PARTY is 0, depth is 0, THE MINUTE as it is", ruled, 5, "party=0", "depth=0", "minute=3", "kind=3", "yes=1", "no=0", "there=4", "members=4");
        edges("5: PARTY is 0, depth is 0, THE MINUTE as it is", ruled, 0, "party", "depth", "minute=0", "kind=0", "no", "there=0");
        String both = "house 1 / up 7 / like 0 7 -1 / like 0 9 5 / tell 3 0 9 / tell 1 0 0 / ";
        edge("5: a vote on what the BILL is then: what came is not let go", both + "foresee " + order(0, 1) + " 0", 5);
        edge("5: a vote on what the BILL is then: what is bad goes", both + "foresee " + order(1, 0) + " 0", 0);
        String three = "house 1 / up 7 / like 0 7 1 / like 0 9 5 / like 0 8 3 / tell 3 0 9 / tell 3 0 8 / ";
        edge("5: a vote on what the BILL is then: nothing worse comes", three + "foresee " + order(0, 1) + " 0", 5);
        edge("5: a vote on what the BILL is then: the better comes behind", three + "foresee " + order(1, 0) + " 0", 5);
        edge("5: a BILL of 10 takes no PUT", "house 1 / up 1 2 3 4 5 6 7 8 9 10 / like 0 50 1 / ask 0 1 / tell 2 10 50 / foresee 0 0", 0);
        edge("5: the BILL has 10 when the second one comes", "house 1 / up 1 2 3 4 5 6 7 8 9 / like 0 50 1 / 2*tell 2 9 50 / foresee 6 0", 1);
        edge("5: the BILL has 9 again", "house 1 / up 1 2 3 4 5 6 7 8 9 10 / like 0 50 1 / ask 0 1 / tell 1 0 0 / tell 2 10 50 / foresee 6 0", 1);
        edge("5: a PUT that is not done moves none", "house 1 / up 1 2 3 4 5 6 7 8 9 10 / like 0 10 5 / ask 0 1 / tell 2 0 50 / tell 1 9 0 / foresee 6 0", 0);
        edge("5: a GONE one moves none", "house 1 / up 1 2 3 / like 0 2 5 / like 0 3 1 / ask 0 1 / 2*tell 1 0 0 / tell 1 2 0 / foresee " + order(0, 1, 2) + " 0", 5);
        edge("5: each vote counts its own yes", "house 2 / up 7 / like 0 9 1 / like 1 9 1 / like 1 8 1 / tell 3 0 9 / tell 3 0 8 / foresee 6 0", 1);
        edge("5: each vote counts its own no", "house 2 / up 7 / like 0 9 5 / like 1 9 -1 / like 0 8 3 / tell 3 0 9 / tell 3 0 8 / foresee 6 0", 3);
        edge("5: five PUTS", "house 1 / up 1 2 3 4 5 / like 0 50 9 / 5*tell 2 5 50 / foresee " + order(0, 1, 2, 3, 4) + " 0", 45);
        edge("5: five AMENDS of all", "house 1 / up 7 7 7 7 7 / like 0 7 -9 / tell 1 0 0 / tell 1 1 0 / tell 1 2 0 / tell 1 3 0 / tell 1 4 0 / foresee " + order(4, 0, 3, 1, 2) + " 0", 0);
    }

    static void best() {
        refused("30: no such MEMBER", "house 2 / up 7 / tell 1 0 0 / best #", BAD, outside(2));
        refused("30: no BILL is UP", "house 2 / draft 7 / report 0 / best 0", STATE);
        refused("30: no BILL is UP any more", "house 2 / up 7 / act 0 0 0 0 / vote / best 0", STATE);
        refused("30: BAD ahead of STATE", "house 2 / best #", BAD, outside(2));
        refused("30: none TOLD", "house 1 / up 7 / best 0", 0);
        refused("30: one TOLD", "house 1 / up 7 / tell 1 0 0 / best 0", 0);
        refused("30: of like ones the lesser number", "house 1 / up 7 8 / tell 1 0 0 / tell 1 1 0 / best 0", order(1, 0));
        refused("30: of like ones the lesser number, five TOLD", "house 1 / up 7 / 5*tell 1 0 0 / best 0", order(4, 3, 2, 1, 0));
        edge("30: of like ones the lesser number, neither the first nor the last found",
            "house 1 / up 1 2 / like 0 1 -1 / like 0 4 2 / tell 3 0 4 / tell 1 1 0 / tell 1 0 0 / best 0", order(0, 2, 1));
        edge("30: an ORDER has each just once", "house 1 / up 7 / like 0 7 1 / like 0 9 5 / tell 1 0 0 / tell 2 0 9 / best 0", order(1, 0));
        edge("30: an ORDER has each just once", "house 1 / up 7 / like 0 7 1 / like 0 9 5 / tell 2 0 9 / tell 1 0 0 / tell 2 0 9 / best 0", order(2, 1, 0));
        edge("30: the only one of its worth", "house 2 / up 7 / asks 1 / like 0 8 2 / like 0 9 1 / tell 3 0 9 / tell 3 0 8 / best 0", order(0, 1));
        edge("30: the greatest worth below 0", "house 1 / up 7 / ask 0 1 / like 0 8 -2 / like 0 9 -5 / tell 3 0 9 / tell 3 0 8 / best 0", order(0, 1));
        edge("30: the greatest worth, of the greater number", "house 2 / up 7 / asks 1 / like 0 9 1 / tell 3 0 8 / tell 3 0 9 / best 0", order(0, 1));
        edge("30: the greatest worth, of the lesser number", "house 2 / up 7 / asks 1 / like 0 8 1 / tell 3 0 8 / tell 3 0 9 / best 0", order(1, 0));
        edge("30: of another MEMBER", "house 2 / up 7 / asks 1 / like 0 8 1 / like 1 9 1 / tell 3 0 8 / tell 3 0 9 / best 1", order(0, 1));
        edge("30: of one that is not THERE", "house 2 / up 7 / asks 1 / like 0 9 1 / comes 0 false / tell 3 0 8 / tell 3 0 9 / best 0", order(0, 1));
        // 8 must come ahead of 9, for behind it nobody would vote for it
        edge("30: the only one of five", "house 1 / up 7 / like 0 8 1 / like 0 9 2 / like 0 10 3 / like 0 11 4 / like 0 12 5"
            + " / rule rank 1;may 1;pass 1;quorum 1; / tell 3 0 8 / tell 3 0 12 / tell 3 0 10 / tell 3 0 9 / tell 3 0 11 / best 0", order(4, 3, 2, 0, 1));
        edge("30: it takes no MINUTE", "house 1 / up 7 / tell 1 0 0 / best 0 / count 7", 0);
    }

    static void conferred(String sentence, String a, String b, int... words) {
        String bills = "draft " + a + " / draft " + b + " / ";
        edge(sentence, bills + "confer 0 1", words.length);
        for (int i = 0; i < words.length; i++) edge(sentence + ": " + i, bills + "conferred 0 1 " + i, words[i]);
        for (int i = 0; i < words.length; i++) edge(sentence + ": " + i + ", the other way", bills + "conferred 1 0 " + i, words[i]);
        refused(sentence + ": there is no more", bills + "conferred 0 1 #", NONE, outside(words.length));
    }

    static void confer() {
        conferred("31: nothing in both", "1 2 3", "4 5 6");
        conferred("31: one BILL is empty", "", "1 2 3");
        conferred("31: both BILLS are empty", "", "");
        conferred("31: the same", "1 2 3 4 5 6 7 8 9 10", "1 2 3 4 5 6 7 8 9 10", 1, 2, 3, 4, 5, 6, 7, 8, 9, 10);
        conferred("31: others may stand between", "1 50 2 51 3", "52 1 2 53 54 3 55", 1, 2, 3);
        conferred("31: in their order", "1 2 3", "3 2 1", 1);
        conferred("31: one WORD more than once", "7 7 7", "7 8 7", 7, 7);
        conferred("31: one WORD as often as can be", "7 7 7 7 7 7 7 7 7 7", "7 7 7 7 7 7 7 7 7 7", 7, 7, 7, 7, 7, 7, 7, 7, 7, 7);
        conferred("32: of like long ones the lesser WORD at the first place", "9 1", "1 9", 1);
        conferred("32: the longest, not the lesser WORD", "9 8 1", "1 9 8", 9, 8);
        conferred("32: of like long ones, the next place", "5 9 1", "5 1 9", 5, 1);
        conferred("32: of like long ones, the first place rules", "2 60 1 9", "1 9 2 60", 1, 9);
        conferred("32: of like long ones, each place", "9 1 8 2 7 3", "1 9 2 8 3 7", 1, 2, 3);
        conferred("31: one WORD more than once in one of them", "1 2", "1 2 1", 1, 2);
        conferred("31: one WORD more than once in one of them", "3 1", "3 1 1", 3, 1);
        conferred("31: one WORD more than once in one of them", "2 2 3", "2 3", 2, 3);
        conferred("31: one WORD more than once in one of them", "3 2 2", "3 2", 3, 2);
        conferred("32: WORDS 1 and 60", "60 1 60", "60 60 1", 60, 1);
        String bills = "draft 1 2 / draft 2 1 / ";
        refused("31: no such BILL", bills + "confer 0 #", BAD, outside(2));
        refused("31: no such BILL", bills + "confer # 0", BAD, outside(2));
        refused("31: a = b", bills + "confer # #", BAD, "0", "1");
        refused("32: no such BILL", bills + "conferred 0 # 0", BAD, outside(2));
        refused("32: no such BILL", bills + "conferred # 0 0", BAD, outside(2));
        refused("32: a = b", bills + "conferred # # 0", BAD, "0", "1");
        refused("32: BAD, also if there is no such WORD", bills + "conferred # 2", BAD, "0 2", "2 0", "1 1");
        edge("31: BILLS that ended, too", "house 1 / up 7 / act 0 0 0 0 / vote / draft 7 / confer 0 1", 1);
        refused("31: confer() changes nothing", bills + "confer 0 1", 1);
    }

    static void count() {
        refused("33: no such what", "house 2 / count #", BAD, outside(12));
        edge("33: 0 MEMBERS, at most", "16*member 0 / count 0", 15);
        edge("33: 1 that are THERE", "15*member 0 / comes 14 false / count 1", 14);
        edge("33: 2 BILLS, at most", "9*bill / count 2", 8);
        edge("33: 3 TEXTS, at most", "8*read rank 1;may 1;pass 1;quorum 1; / count 3", 8);
        edge("33: 4 MOTIONS, at most", ActsEdgesTest.EIGHT + "act 4 1 0 0 / count 4", 8);
        edge("33: 5 bytes, at most", "26*feed 8 0 / count 5", 200);
        edge("33: 6 DAY", "3*day / count 6", 3);
        edge("33: 7 THE MINUTE, at most", "house 1 / spend 101 / count 7", 100);
        edge("33: 8 the BILL that is UP", "bill / up / count 8", 1);
        edge("33: 8 NONE", "bill / report 0 / count 8", NONE);
        edge("33: 9 THE RULE", "house 1 / read rank / read rank 1;may 1;pass 1;quorum 1; / act 6 0 0 1 / vote / count 9", 1);
        edge("33: 10 those TOLD, at most", "up 7 / 6*tell 1 0 0 / count 10", 5);
        edge("33: 11 BILLS on THE CALENDAR, at most", "8*bill / report 0 / report 1 / report 2 / report 3 / report 4 / report 5 / report 6 / report 7 / count 11", 8);
        edge("33: 11 not the one that is UP", "8*bill / report 0 / report 1 / call / count 11", 1);
    }

    public static void main(String[] args) {
        tell();
        toldAreGone();
        foresee();
        places();
        votes();
        best();
        confer();
        count();
        end("ForeseenEdgesTest");
    }
}
