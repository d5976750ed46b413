/** The edges of promises 34 to 37: TRAYS, and MOTIONS taken for ones of a KIND. */
public final class HostEdgesTest extends Edges {
    static void tray() {
        edges("34: TRAYS 0 .. 3", "tray # 5", 1, "0", "1", "2", "3");
        edges("34: a row of n bytes", "tray 0 #", 1, "0", "1", "40");
        edge("34: NONE", "tray 0 -1", 1);
        refused("34: no such TRAY", "house 1 / tray 0 4 / tray # 4", BAD, outside(4));
        refused("34: n above 40", "house 1 / tray 0 4 / tray 0 #", BAD, "41", "high");
        refused("34: n below -1", "house 1 / tray 0 4 / tray 0 #", -14, "-2", "low");
        refused("34: n above 40, of one that is missing", "tray 1 #", BAD, "41", "high");
        refused("34: n below -1, of one that is missing", "tray 1 #", -14, "-2", "low");
        refused("34: BAD ahead of -14", "tray # -2", BAD, outside(4));
        edge("34: it is missing", "tray 0 5 / tray 0 -1 / cell 0 0 0", -11);
        edge("34: it was missing and is", "tray 0 -1 / cell 0 0 0", -11);
        edge("34: a row of 0 bytes is not missing", "tray 0 0 / cell 0 0 0", -12);
        edge("34: all 0", "house 1 / up 7 / tray 0 4 / made 0 0", 1);
        edge("34: all 0 again", "house 1 / up 7 / tray 0 4 / cell 0 0 6 / tray 0 4 / made 0 0 / motion 0 0", 0);
        edge("34: all 0 again, when it was missing", "house 1 / up 7 / tray 0 4 / cell 0 0 6 / tray 0 -1 / tray 0 4 / made 0 0 / motion 0 0", 0);
        edge("34: all 0 again, when it was shorter", "house 1 / up 7 / tray 0 40 / cell 0 36 6 / tray 0 2 / tray 0 40 / made 0 36 / motion 0 0", 0);
        edge("34: another one stays", "house 1 / up 7 / tray 0 4 / cell 0 0 6 / tray 1 4 / made 0 0 / motion 0 0", 6);
    }

    static void cell() {
        edge("35: the first byte", "tray 0 1 / cell 0 0 5", 1);
        edge("35: the last byte", "tray 0 40 / cell 0 39 5", 1);
        refused("35: no such TRAY", "tray 0 4 / cell # 0 5", BAD, outside(4));
        refused("35: it is missing", "tray 0 4 / cell 1 # 5", -11, "0", "-1", "40");
        refused("35: it is missing again", "tray 0 4 / tray 0 -1 / cell 0 0 5", -11);
        refused("35: a place outside", "house 1 / tray 0 4 / cell 0 # 5", -12, outside(4));
        refused("35: a place outside of 40", "house 1 / tray 0 40 / cell 0 # 5", -12, outside(40));
        refused("35: a place outside of 0", "tray 0 0 / cell 0 # 5", -12, outside(0));
        String made = "house 1 / up 7 8 / act 0 0 0 0 / tray 0 4 / cell 0 0 2 / cell 0 3 # / made 0 0 / motion 1 3";
        edges("35: its lowest 8 bits", made, 5, "5", "261", "-251", "65541");
        edges("35: its lowest 8 bits", made.replace(" / motion 1 3", ""), BAD, "255", "-1", "256", "low", "high", "61", "-195");
        edges("35: its lowest 8 bits", "house 1 / tray 0 4 / cell 0 0 6 / cell 0 3 # / made 0 0", 1, "0", "256", "low");
    }

    static void made() {
        String up = "house 2 / up 7 8 / act 0 0 0 0 / tray 0 5 / cell 0 0 9 / cell 0 1 3 / cell 0 2 1 / cell 0 3 1 / cell 0 4 60 / ";
        edge("36: four bytes: what act() answers", up + "made 0 1", 2);
        edge("36: the first is the KIND", up + "made 0 1 / motion 1 0", 3);
        edge("36: the second is the MEMBER", up + "made 0 1 / motion 1 1", 1);
        edge("36: the third is the SECTION", up + "made 0 1 / motion 1 2", 1);
        edge("36: the fourth is the WORD", up + "made 0 1 / motion 1 3", 60);
        edge("36: it takes a MINUTE", up + "made 0 1 / count 7", 2);
        edge("36: the last four of 40", "house 1 / tray 0 40 / cell 0 36 6 / made 0 36", 1);
        refused("36: no such TRAY", up + "made # 0", BAD, outside(4));
        refused("36: it is missing", up + "made 1 #", -11, "0", "-1", "40");
        refused("36: from a place outside", up + "made 0 #", -12, "low", "-1", "2", "3", "4", "5", "40", "2147483644", "high");
        refused("36: from a place outside of 40", "house 1 / tray 0 40 / made 0 #", -12, "37", "38", "39", "40");
        refused("36: a row of 3 bytes", "house 1 / tray 0 3 / made 0 0", -12);
        refused("36: a row of 0 bytes", "house 1 / tray 0 0 / made 0 0", -12);
        edge("36: a row of 4 bytes", "house 1 / tray 0 4 / cell 0 0 6 / made 0 0", 1);
        refused("36: no such KIND", up + "made 0 0", BAD);
        refused("36: no such KIND", up + "cell 0 1 # / made 0 1", BAD, "7", "255");
        refused("36: no such MEMBER", up + "cell 0 2 # / made 0 1", BAD, "2", "255");
        refused("36: no such SECTION", up + "cell 0 3 # / made 0 1", BAD, "2", "255");
        refused("36: no such WORD", up + "cell 0 4 # / made 0 1", BAD, "0", "61", "255");
        refused("36: no such TEXT", "house 1 / tray 0 4 / cell 0 0 6 / cell 0 3 # / made 0 0", BAD, "1", "255");
        refused("36: WHY 1", "house 1 / tray 0 4 / made 0 0", -21);
        refused("36: WHY 2", "house 1 / tray 0 4 / cell 0 0 6 / spend 100 / made 0 0", -22);
        refused("36: WHY 3", up + "comes 1 false / made 0 1", -23);
        refused("36: WHY 4", up + "cell 0 1 0 / made 0 1", -24);
        refused("36: WHY 5", up + "made 0 1 / made 0 1", -25);
        refused("36: -12 ahead of BAD", up + "made 0 2", -12);
    }

    static void taken() {
        String six = "house 7 / up 7 / act 0 6 0 0 / act 1 5 0 0 / act 2 4 0 1 / act 3 3 0 1 / act 4 2 0 0 / act 5 1 0 0 / ";
        for (int kind = 0; kind <= 5; kind++) {
            for (int as = 0; as <= 6; as++) {
                boolean under = as == kind || as == 0 || as == 1 && (kind == 2 || kind == 3);
                String sentence = "37: a MOTION of KIND " + kind + " for one of " + as;
                refused(sentence, six + "taken " + kind + " " + as, under ? 6 - kind : -13);
            }
        }
        edges("37: RULE for RULE, and for MOTION", "house 3 / act 6 2 0 0 / taken 0 #", 2, "6", "0");
        refused("37: RULE for another one", "house 3 / act 6 2 0 0 / taken 0 #", -13, "1", "2", "3", "4", "5");
        refused("37: no such KIND", six + "taken 0 #", BAD, outside(7));
        refused("37: no such MOTION", six + "taken # 0", -11, outside(6));
        refused("37: no such MOTION: THE PILE is empty", "house 1 / taken # 0", -11, outside(0));
        refused("37: no such MOTION: THE PILE is full", ActsEdgesTest.EIGHT + "taken # 0", -11, outside(8));
        edge("37: the 8th", ActsEdgesTest.EIGHT + "taken 7 4", 0);
        refused("37: BAD ahead of -11", "house 1 / taken 0 #", BAD, outside(7));
        edge("37: one that is GONE, too", "house 3 / rule rank party;may 1;pass 1;quorum 1; / up 7 / act 0 0 0 0 / act 2 1 0 9 / act 1 2 0 0 / vote / taken 1 1", 1);
        refused("37: one that ended is none such", "house 1 / act 6 0 0 0 / vote / taken 0 6", -11);
    }

    public static void main(String[] args) {
        tray();
        cell();
        made();
        taken();
        end("HostEdgesTest");
    }
}
