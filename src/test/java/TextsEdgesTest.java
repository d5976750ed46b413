/** The edges of promises 17 to 19, and of "Terms" 3 where it tells of THE TAPE, TOKENS, FAULTS and what an E is. */
public final class TextsEdgesTest extends Edges {
    static final int LEAST = Integer.MIN_VALUE, MOST = Integer.MAX_VALUE;
    static final String REST = ";may 1;pass 1;quorum 1;";

    static String blanks(int n) { return " ".repeat(n); }

    /** A TEXT of so many bytes in all. */
    static String longText(int bytes) {
        String text = "rank 1;may 2;pass 3;quorum 4";
        return text + blanks(bytes - text.length() - 1) + ";";
    }

    static void feed() {
        edges("17: n is 1 .. 8", "feed # 0", 1, "1");
        edges("17: n is 1 .. 8", "feed # 0", 8, "8");
        refused("17: n is not 1 .. 8", "write rank / feed # 0", BAD, "low", "-1", "0", "9", "high");
        edge("17: how many it has", "feed 3 0 / feed 2 0", 5);
        edge("Terms: a TAPE of 200 bytes", "25*feed 8 0", 200);
        edge("Terms: the 200th byte has room", "24*feed 8 0 / feed 7 0 / feed 1 0", 200);
        refused("Terms: 200 bytes at most", "25*feed 8 0 / feed # 0", FULL, "1", "8");
        refused("Terms: 200 bytes at most, a part of the bytes does not come", "24*feed 8 0 / feed 1 0 / feed 8 0", FULL);
        edge("Terms: 200 bytes at most, but fewer have room", "24*feed 8 0 / feed 1 0 / feed 8 0 / feed 7 0", 200);
        refused("17: BAD ahead of FULL", "25*feed 8 0 / feed # 0", BAD, "low", "-1", "0", "9", "high");
        // 65083441832306 is "rank1;" and 4266939784337711474 "rank 77;", from the lowest byte on
        edge("17: the lowest byte first", "feed 6 65083441832306 / write may 1;pass 1;quorum 1; / text", 1);
        edge("17: the n lowest bytes alone", "feed 4 65083441832306 / write  7;may 1;pass 1;quorum 1; / text / says 1 0 0 0 0 0", 7);
        edge("17: the highest byte of 8", "feed 8 4266939784337711474 / write may 1;pass 1;quorum 1; / text / says 1 0 0 0 0 0", 77);
        edge("17: a byte of 255", "feed 1 -1 / text", -100);
        edge("17: a byte of 255 behind what can stand", "write rank / feed 8 -1 / text", -104);
        edge("17: THE TAPE has room again behind a TEXT", "write " + longText(200) + " / text / feed 8 0", 8);
        edge("17: THE TAPE has room again behind a FAULT", "25*feed 8 0 / text / feed 8 0", 8);
    }

    static void text() {
        edge("18: its number", "read " + longText(60), 1);
        edge("18: THE TAPE is empty then", "read " + longText(60) + " / count 5", 0);
        edge("18: by a FAULT, too", "read rank 1;may / count 5", 0);
        edge("18: a FAULT makes no TEXT", "read rank 1;may / count 3", 1);
        edge("18: the number behind a FAULT", "read rank 1;may / read " + longText(60), 1);
        edge("18: the TEXT behind a FAULT is read from its first byte", "read rank 1;may / read " + longText(60) + " / says 1 3 0 0 0 0", 4);
        edge("18: an empty TAPE", "text", -100);
        edge("18: an empty TAPE behind a TEXT", "read " + longText(60) + " / text", -100);
        edge("Terms: a TEXT of 200 bytes", "read " + longText(200), 1);
        edge("Terms: a TEXT of 200 bytes is read to its end", "read " + longText(200) + " / says 1 3 0 0 0 0", 4);
        edge("18: 200 bytes end too early", "write rank 1" + blanks(194) + " / text", -300);
        edge("18: the 200th byte can't stand there", "write rank 1" + blanks(193) + "? / text", -299);
        edge("18: a TEXT of one byte less that has its last sign there", "read " + longText(199) + " / says 1 3 0 0 0 0", 4);
        String seven = "7*read " + longText(40);
        edge("Terms: the 8th TEXT has room", seven, 7);
        refused("Terms: TEXTS, 8 at most (THE TAPE stays)", "8*read " + longText(40), FULL);
        refused("18: FULL ahead of a FAULT (THE TAPE stays)", seven + " / write rank ? / text", FULL);
        refused("18: FULL, also of an empty TAPE", seven + " / text", FULL);
        edge("18: FULL: THE TAPE stays", seven + " / write rank ? / text / count 5", 6);
        edge("18: FULL: more may be fed", seven + " / write rank ? / text / feed 1 0", 7);
        String sum = "rank 1" + "+1".repeat(70);
        edge("18: nothing is left of long FAULTS", ("read " + sum + " / ").repeat(6) + "read " + sum + REST + " / says 1 0 0 0 0 0", 71);
        edge("18: FAULTS take no room", "9*read rank / " + seven, 7);
    }

    static void fault(String sentence, String text, int place) { edge(sentence, "read " + text, -100 - place); }

    static void stands(String sentence, String text) { edge(sentence, "read " + text, 1); }

    static void tokens() {
        stands("Terms: blanks between may be none", "rank1;may1;pass1;quorum1;");
        stands("Terms: blanks are 32 and 10", " \nrank \n 1\n;may 1;pass 1;quorum 1;\n ");
        for (char no : new char[]{0, 1, 9, 11, 12, 13, 31, 33, 127, 128, 160, 255}) fault("Terms: no blank, no TOKEN: " + (int) no, "rank" + no + "1" + REST, 4);
        for (char no : "\"#$%&',./:>?@[\\]^_`{|}~ABCKZ".toCharArray()) fault("Terms: a byte that begins no TOKEN: " + no, "rank " + no + "1" + REST, 5);
        fault("Terms: a byte that begins none, behind a WORD", "rank kind!" + REST, 9);
        fault("Terms: a WORD in great letters", "rank Kind" + REST, 5);
        fault("Terms: a great letter inside", "rank kInd" + REST, 5);
        fault("Terms: a WORD that is neither KEY nor NAME", "rank kin" + REST, 5);
        fault("Terms: a WORD that is neither KEY nor NAME", "rank kinds" + REST, 5);
        fault("Terms: a WORD of 1 letter", "rank k" + REST, 5);
        fault("Terms: a WORD of 7 letters that is neither", "rank memberz" + REST, 5);
        fault("Terms: a .. z: a WORD with a at its end", "rank kinda" + REST, 5);
        fault("Terms: a .. z: a WORD with z at its end", "rank kindz" + REST, 5);
        fault("Terms: a .. z: the byte ahead of a", "rank kind`" + REST, 9);
        fault("Terms: a .. z: the byte behind z", "rank kind{" + REST, 9);
        fault("Terms: 0 .. 9: the byte ahead of 0", "rank 1/" + REST, 6);
        fault("Terms: 0 .. 9: the byte behind 9", "rank 1:" + REST, 6);
        for (String ahead : new String[]{"(", "-", "not ", "((1)", "1+", "1 and "}) {
            for (String no : new String[]{"kin", "?", "10000"}) fault("Terms: no TOKEN behind " + ahead, "rank " + ahead + no + " 1))" + REST, 5 + ahead.length());
        }
        stands("Terms: a WORD of 7 letters", "rank members" + REST);
        fault("Terms: 7 letters at most, the 8th begins another", "rank memberss" + REST, 12);
        stands("Terms: 7 letters at most, the 8th begins another", "rank membersor 1" + REST);
        fault("Terms: as long as can be: kindor is one WORD", "rank kindor 1" + REST, 5);
        fault("Terms: as long as can be: andnot is one WORD", "rank 1 andnot 1" + REST, 7);
        fault("Terms: a blank ends a WORD", "rank ki nd" + REST, 5);
        stands("Terms: a NUMBER ends where letters begin", "rank 1or 2" + REST);
        fault("Terms: a WORD ends where digits begin", "rank kind1" + REST, 9);
        stands("Terms: a NUMBER of 4 digits", "rank 9999" + REST);
        stands("Terms: a NUMBER of 4 digits", "rank 0000" + REST);
        fault("Terms: a NUMBER of 5 digits", "rank 10000" + REST, 5);
        fault("Terms: a NUMBER of 5 digits", "rank 00000" + REST, 5);
        fault("Terms: a NUMBER of 12 digits", "rank 123456789012" + REST, 5);
        fault("Terms: a NUMBER that is too long, behind others", "rank 1 + 10000" + REST, 9);
        fault("Terms: a blank ends a NUMBER", "rank 99 99" + REST, 8);
        for (String name : "kind depth minute party there members yes no".split(" ")) nearly(name, "rank ~" + REST);
        nearly("rank", "~ 1" + REST);
        nearly("may", "rank 1;~ 1;pass 1;quorum 1;");
        nearly("pass", "rank 1;may 1;~ 1;quorum 1;");
        nearly("quorum", "rank 1;may 1;pass 1;~ 1;");
        nearly("or", "rank 1 ~ 1" + REST);
        nearly("and", "rank 1 ~ 1" + REST);
        nearly("not", "rank ~ 1" + REST);
        for (String key : "rank may pass quorum or and".split(" ")) fault("Terms: a KEY is no NAME: " + key, "rank " + key + REST, 5);
        for (String name : "kind depth minute party there members yes no".split(" ")) stands("Terms: a NAME: " + name, "rank " + name + REST);
    }

    /** Each letter of a KEY or NAME changed, or left out, makes a WORD that is none; ~ has its place in the text. */
    static void nearly(String known, String text) {
        for (int i = 0; i < known.length(); i++) {
            String ahead = known.substring(0, i), behind = known.substring(i + 1);
            fault("Terms: nearly " + known, text.replace("~", ahead + "j" + behind), text.indexOf('~'));
            // not without its last letter is no, a NAME
            if (!behind.isEmpty()) fault("Terms: nearly " + known, text.replace("~", ahead + behind), text.indexOf('~'));
        }
    }

    static void grammar() {
        fault("Terms: it ends too early, ahead of all", " \n ", 3);
        fault("Terms: it ends too early, inside a KEY", "ran", 0);
        fault("Terms: it ends too early, behind a KEY", "rank", 4);
        fault("Terms: it ends too early, behind blanks", "rank 1;may \n", 12);
        fault("Terms: it ends too early, ahead of the last sign", "rank 1;may 1;pass 1;quorum 1", 28);
        fault("Terms: it ends too early, in a (", "rank (1", 7);
        fault("Terms: more behind the end", "rank 1" + REST + ";", 29);
        fault("Terms: more behind the end", "rank 1" + REST + " rank", 30);
        for (String more : "1 kind ( ) + - * < = or not may".split(" ")) fault("Terms: more behind the end: " + more, "rank 1" + REST + more, 29);
        fault("Terms: more behind the end that is no TOKEN", "rank 1" + REST + "\n?", 30);
        fault("Terms: the first KEY", "may 1;", 0);
        fault("Terms: the first KEY, a NAME there", "kind 1;", 0);
        fault("Terms: the second KEY", "rank 1;rank 1;", 7);
        fault("Terms: the third KEY", "rank 1;may 1;quorum 1;", 13);
        fault("Terms: the fourth KEY", "rank 1;may 1;pass 1;pass 1;", 20);
        fault("Terms: no ; behind an E", "rank 1 may 1;", 7);
        fault("Terms: no E", "rank ;", 5);
        fault("Terms: no E in ( )", "rank ()" + REST, 6);
        fault("Terms: a ) too many", "rank (1))" + REST, 8);
        fault("Terms: a ) too few", "rank ((1)" + REST, 9);
        fault("Terms: two NUMBERS", "rank 1 2" + REST, 7);
        fault("Terms: two NAMES", "rank kind no" + REST, 10);
        fault("Terms: a NUMBER ahead of a (", "rank 2(1)" + REST, 6);
        for (String op : "or and + - * < =".split(" ")) fault("Terms: nothing behind " + op, "rank 1 " + op + ";", 7 + op.length());
        for (String op : "or and + * < =".split(" ")) fault("Terms: nothing ahead of " + op, "rank " + op + " 1" + REST, 5);
        fault("Terms: nothing behind not", "rank not;", 8);
        fault("Terms: one < or = alone", "rank 1<2<3" + REST, 8);
        fault("Terms: one < or = alone", "rank 1=2<3" + REST, 8);
        fault("Terms: one < or = alone", "rank 1<2=3" + REST, 8);
        fault("Terms: no not behind <", "rank 1<not 2" + REST, 7);
        fault("Terms: no not in a SUM", "rank 1+not 2" + REST, 7);
        fault("Terms: no not behind -", "rank -not 2" + REST, 6);
        fault("Terms: a not behind an E", "rank 1 not 2" + REST, 7);
        stands("Terms: a not in ( ) may stand in a SUM", "rank 1+(not 2)" + REST);
        stands("Terms: a < in ( ) may stand in a comparison", "rank (1<2)<(3=4)" + REST);
        stands("Terms: not behind and, or", "rank 1 and not 2 or not 3" + REST);
        fault("Terms: the first of two that can't stand", "rank 1 2 ?" + REST, 7);
        fault("Terms: in the second part", "rank 1;may +", 11);
        fault("Terms: in the third part", "rank 1;may 1;pass *", 18);
        fault("Terms: in the fourth part", "rank 1;may 1;pass 1;quorum <", 27);
    }

    static void open() {
        stands("Terms: 5 ( open", "rank (((((1)))))" + REST);
        fault("Terms: a ( while 5 ( are open", "rank ((((((1))))))" + REST, 10);
        stands("Terms: 5 not open", "rank not not not not not 1" + REST);
        fault("Terms: a not while 5 not are open", "rank not not not not not not 1" + REST, 25);
        stands("Terms: 5 - open", "rank -----1" + REST);
        fault("Terms: a - while 5 - are open", "rank ------1" + REST, 10);
        fault("Terms: a ( while 5 - are open", "rank -----(1)" + REST, 10);
        fault("Terms: a - while 5 ( are open", "rank (((((-1)))))" + REST, 10);
        fault("Terms: a not while 5 ( are open", "rank (((((not 1)))))" + REST, 10);
        fault("Terms: a ( while 5 not are open", "rank not not not not not (1)" + REST, 25);
        fault("Terms: a - while 5 not are open", "rank not not not not not -1" + REST, 25);
        stands("Terms: 5 of all three open", "rank not (not (-1))" + REST);
        fault("Terms: 6 of all three open", "rank not (not (-(1)))" + REST, 16);
        stands("Terms: a ( ends with its )", "rank (((((1)))))+(((((1)))))" + REST);
        stands("Terms: a ( ends with its ), the outer ones stay open", "rank ((((1)+(2)+(-3))))" + REST);
        stands("Terms: a ( ends with its ), the outer ones stay open", "rank ((((1)+((2)))))" + REST);
        fault("Terms: a ( ends with its ), the outer ones stay open", "rank ((((1)+(((2))))))" + REST, 14);
        stands("Terms: a - ends with its ONE", "rank -----1*-----2------3" + REST);
        stands("Terms: a - ends with its ONE", "rank -----1-----(3)" + REST);
        fault("Terms: a - ends with its ONE, but no sooner", "rank -----1------(3)" + REST, 17);
        stands("Terms: a not ends with what it belongs to", "rank not not not not not 1 and not 2 or not not not not not 3" + REST);
        fault("Terms: a not is open in all of its comparison", "rank not not not not not 1<(2)" + REST, 27);
        fault("Terms: a not is open in all of its SUM", "rank not not not not not 1+-2" + REST, 27);
        stands("Terms: a - between two TERMS is not counted", "rank (((((3-2)))))" + REST);
        stands("Terms: a - between two TERMS is not counted", "rank not not not not not 3-2" + REST);
        stands("Terms: none is open in another part", "rank (((((1)))));may (((((1)))));pass -----1;quorum not not not not not 1;");
        edge("Terms: none is open behind a FAULT", "read rank (((((+ / read rank (((((1)))))" + REST, 1);
    }

    /** What an E comes to, as the rank of a KIND 4 of PARTY 2, of 3 MEMBERS of which 2 are THERE. */
    static void comes(String sentence, String e, long want) {
        edge(sentence, "house 3 / comes 0 false / read rank " + e + REST + " / says 1 0 4 2 0 0", want);
    }

    static void sums() {
        comes("Terms: a NUMBER", "9999", 9999);
        comes("Terms: a NUMBER with 0 ahead", "0010", 10);
        comes("Terms: 0", "0", 0);
        comes("Terms: as it is, in ( )", "(7)", 7);
        comes("Terms: * ahead of +", "2+3*4", 14);
        comes("Terms: ( ) ahead of *", "(2+3)*4", 20);
        comes("Terms: - from the left", "10-3-2", 5);
        comes("Terms: - of a ONE", "-3*-2", 6);
        comes("Terms: - of a - ", "--3", 3);
        comes("Terms: + ahead of <", "1<0+2", 1);
        comes("Terms: < of like ones", "3<3", 0);
        comes("Terms: < of the next one", "3<4", 1);
        comes("Terms: < of the one ahead", "3<2", 0);
        comes("Terms: < below 0", "-1<0", 1);
        comes("Terms: = of like ones", "3=3", 1);
        comes("Terms: = of others", "3=4", 0);
        comes("Terms: = of 0 and -0", "0=-0", 1);
        comes("Terms: not 0", "not 0", 1);
        comes("Terms: not of what is above 0", "not 2", 0);
        comes("Terms: not of what is below 0", "not -1", 0);
        comes("Terms: not of a comparison", "not 2<1", 1);
        comes("Terms: not not is 1 or 0", "not not 7", 1);
        comes("Terms: and is 1 or 0", "7 and 8", 1);
        comes("Terms: and of 0", "7 and 0", 0);
        comes("Terms: 0 and", "0 and 7", 0);
        comes("Terms: below 0 is true", "-1 and -1", 1);
        comes("Terms: or is 1 or 0", "0 or 9", 1);
        comes("Terms: or of both", "3 or 9", 1);
        comes("Terms: or of none", "0 or 0", 0);
        comes("Terms: and ahead of or", "1 or 1 and 0", 1);
        comes("Terms: and ahead of or", "0 and 1 or 1", 1);
        comes("Terms: not ahead of and", "not 1 and 0", 0);
        comes("Terms: not ahead of or", "not 1 or 1", 1);
        comes("Terms: ( ) in a not", "not (1 and 0)", 1);
    }

    static void wraps() {
        comes("Terms: the most", "8192*8192*32-1", MOST);
        comes("Terms: wrapping above", "8192*8192*32-1+1", LEAST);
        comes("Terms: wrapping above", "8192*8192*32", LEAST);
        comes("Terms: wrapping below", "-8192*8192*32-1", MOST);
        comes("Terms: - of the least is the least", "-(8192*8192*32)", LEAST);
        comes("Terms: wrapping to 0 is not true", "not 8192*8192*64", 1);
        comes("Terms: wrapping by *", "9999*9999*9999", 9999 * 9999 * 9999);
        comes("Terms: wrapping above is below 0", "8192*8192*32<0", 1);
        comes("Terms: 32 bits in a comparison", "8192*8192*32-1<8192*8192*32", 0);
        comes("Terms: wrapping to the same", "8192*8192*64=0", 1);
    }

    static void names() {
        comes("Terms: kind", "kind", 4);
        comes("Terms: party", "party", 2);
        comes("Terms: depth of an empty PILE", "depth", 0);
        comes("Terms: THE MINUTE at first", "minute", 0);
        comes("Terms: there, not all", "there", 2);
        comes("Terms: members, all", "members", 3);
        String text = "read rank depth;may minute;pass there;quorum members; / ";
        edge("Terms: no MEMBERS", text + "says 1 3 0 0 0 0", 0);
        edge("Terms: none THERE", text + "says 1 2 0 0 0 0", 0);
        edge("Terms: 15 MEMBERS", "house 15 / " + text + "says 1 3 0 0 0 0", 15);
        edge("Terms: 15 THERE", "house 15 / " + text + "says 1 2 0 0 0 0", 15);
        edge("Terms: the MOTIONS of THE PILE", "house 1 / up / act 0 0 0 0 / act 4 0 0 0 / act 5 0 0 0 / " + text + "says 1 0 0 0 0 0", 3);
        edge("Terms: THE MINUTE 100", "house 1 / " + text + "spend 100 / says 1 1 0 0 0 0", 100);
        edge("Terms: THE MINUTE of the next DAY", "house 1 / " + text + "spend 3 / day / says 1 1 0 0 0 0", 0);
    }

    static void says() {
        edges("19: of TEXT 0: rank kind", "says 0 0 # 0 0 0", 0, "0");
        edges("19: of TEXT 0: rank kind", "says 0 0 # 0 0 0", 6, "6");
        edge("19: of TEXT 0: may 1", "says 0 1 6 3 0 0", 1);
        edge("19: of TEXT 0: pass no < yes, of like ones", "says 0 2 0 0 7 7", 0);
        edge("19: of TEXT 0: pass no < yes, one more", "says 0 2 0 0 8 7", 1);
        edge("19: of TEXT 0: pass no < yes, one less", "says 0 2 0 0 7 8", 0);
        edge("19: of TEXT 0: quorum of none", "says 0 3 0 0 0 0", 0);
        edge("19: of TEXT 0: quorum of just half", "house 4 / comes 0 false / comes 1 false / says 0 3 0 0 0 0", 0);
        edge("19: of TEXT 0: quorum of more than half", "house 4 / comes 0 false / says 0 3 0 0 0 0", 1);
        edge("19: of TEXT 0: quorum of half of 3", "house 3 / comes 0 false / says 0 3 0 0 0 0", 1);
        String text = "read rank 5;may kind;pass yes*100+no;quorum party; / ";
        edge("19: part 0", text + "says 1 0 6 3 15 15", 5);
        edge("19: part 1, the greatest KIND", text + "says 1 1 6 3 15 15", 6);
        edge("19: part 2, the most yes and no", text + "says 1 2 6 3 15 14", 1514);
        edge("19: part 2, no yes and no", text + "says 1 2 6 3 0 0", 0);
        edge("19: part 3, the greatest PARTY", text + "says 1 3 6 3 15 15", 3);
        edge("19: the 8th TEXT", "6*read rank 1" + REST + " / read rank 77" + REST + " / says 7 0 0 0 0 0", 77);
        refused("19: no such TEXT", text + "says # 0 0 0 0 0", NO, outside(2));
        refused("19: no such TEXT, 8 of them", "7*read rank 1" + REST + " / says # 0 0 0 0 0", NO, outside(8));
        refused("19: no such TEXT, by a FAULT", "read rank 1 / says 1 0 0 0 0 0", NO);
        refused("19: no such part", text + "says 1 # 0 0 0 0", NO, outside(4));
        refused("19: no such KIND", text + "says 1 0 # 0 0 0", NO, outside(7));
        refused("19: no such PARTY", text + "says 1 0 0 # 0 0", NO, outside(4));
        refused("19: no such yes", text + "says 1 0 0 0 # 0", NO, outside(16));
        refused("19: no such no", text + "says 1 0 0 0 0 #", NO, outside(16));
        edge("19: a LEAST int is no NO", "read rank 8192*8192*32" + REST + " / says 1 0 0 0 0 0", LEAST);
        edge("19: says() takes no MINUTE", text + "says 1 0 0 0 0 0 / count 7", 0);
    }

    public static void main(String[] args) {
        feed();
        text();
        tokens();
        grammar();
        open();
        sums();
        wraps();
        names();
        says();
        end("TextsEdgesTest");
    }
}
