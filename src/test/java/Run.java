import java.util.*;

/**
 * Calls written as words, one behind another: "house 3 / pair 0 1" makes four calls.
 * Beside the calls of the document's face (their numbers may be low and high, for the ends of an int) there are
 *   3*bill        a call three times
 *   house 3       three MEMBERS, of PARTY 0, 1, 2 (then 3, 0, ..)
 *   asks 1        each MEMBER is asked
 *   draft 4 5     a BILL of SECTIONS 4 and 5
 *   up 4 5        the same, and it is UP
 *   write rank 1  bytes come behind THE TAPE
 *   read rank 1   the same, then text()
 *   rule rank ..  the same, and the TEXT becomes THE RULE by two acts of MEMBER 0 and all; it takes two MINUTES
 *   spend 5       five MINUTES go by, THE PILE being empty and MEMBER 0 THERE
 */
final class Run {
    private final List<String> lines = new ArrayList<>();
    private int members, bills, texts = 1;

    /** The calls themselves, with no other words in them. */
    static List<String> of(String calls) {
        Run run = new Run();
        for (String line : calls.split(" / ")) run.add(line);
        return run.lines;
    }

    private void add(String line) {
        int star = line.indexOf('*');
        if (star > 0 && line.substring(0, star).matches("[0-9]+")) {
            for (int n = Integer.parseInt(line.substring(0, star)); n > 0; n--) add(line.substring(star + 1));
            return;
        }
        int blank = line.indexOf(' ');
        String rest = blank < 0 ? "" : line.substring(blank + 1);
        switch (blank < 0 ? line : line.substring(0, blank)) {
            case "house": for (int i = Integer.parseInt(rest); i > 0; i--) add("member " + members % 4); break;
            case "asks": for (int m = 0; m < members; m++) add("ask " + m + " " + rest); break;
            case "draft": draft(rest); break;
            case "up": draft(rest); add("report " + (bills - 1)); add("call"); break;
            case "write": write(rest); break;
            case "read": write(rest); add("text"); break;
            case "rule": rule(rest); break;
            case "spend": for (int i = Integer.parseInt(rest); i > 0; i--) { add("act 6 0 0 0"); add("yield"); } break;
            default: plain(line); break;
        }
    }

    private void plain(String line) {
        if (line.startsWith("member ")) members++;
        if (line.equals("bill")) bills++;
        if (line.equals("text")) texts++;
        lines.add(line);
    }

    private void draft(String words) {
        add("bill");
        for (String w : words.split(" ")) if (!w.isEmpty()) add("section " + (bills - 1) + " " + w);
    }

    private void write(String text) {
        for (int i = 0; i < text.length(); i += 8) {
            int n = Math.min(8, text.length() - i);
            long v = 0;
            for (int j = n - 1; j >= 0; j--) v = v << 8 | text.charAt(i + j);
            lines.add("feed " + n + " " + v);
        }
    }

    private void rule(String text) {
        write(text);
        add("text");
        add("asks 1");
        add("act 6 0 0 " + (texts - 1));
        add("vote");
        add("asks 0");
    }

    /** What the last one of these calls answers. */
    static long all(HouseCalendar x, List<String> lines) {
        long answer = 0;
        for (String line : lines) answer = one(x, line);
        return answer;
    }

    private static int number(String word) {
        return word.equals("low") ? Integer.MIN_VALUE : word.equals("high") ? Integer.MAX_VALUE : Integer.parseInt(word);
    }

    static long one(HouseCalendar x, String line) {
        String[] w = line.split(" ");
        if (w[0].equals("comes")) return x.comes(number(w[1]), Boolean.parseBoolean(w[2]));
        if (w[0].equals("feed")) return x.feed(number(w[1]), Long.parseLong(w[2]));
        int[] n = new int[w.length - 1];
        for (int i = 0; i < n.length; i++) n[i] = number(w[i + 1]);
        switch (w[0]) {
            case "member": return x.member(n[0]);
            case "like": return x.like(n[0], n[1], n[2]);
            case "pair": return x.pair(n[0], n[1]);
            case "part": return x.part(n[0]);
            case "ask": return x.ask(n[0], n[1]);
            case "memberTold": return x.memberTold(n[0], n[1]);
            case "bill": return x.bill();
            case "section": return x.section(n[0], n[1]);
            case "billTold": return x.billTold(n[0], n[1]);
            case "word": return x.word(n[0], n[1]);
            case "worth": return x.worth(n[0], n[1]);
            case "report": return x.report(n[0]);
            case "sign": return x.sign(n[0], n[1]);
            case "call": return x.call();
            case "text": return x.text();
            case "says": return x.says(n[0], n[1], n[2], n[3], n[4], n[5]);
            case "act": return x.act(n[0], n[1], n[2], n[3]);
            case "why": return x.why(n[0], n[1], n[2], n[3]);
            case "vote": return x.vote();
            case "voted": return x.voted(n[0]);
            case "would": return x.would(n[0]);
            case "motion": return x.motion(n[0], n[1]);
            case "yield": return x.yield();
            case "day": return x.day();
            case "tell": return x.tell(n[0], n[1], n[2]);
            case "foresee": return x.foresee(n[0], n[1]);
            case "best": return x.best(n[0]);
            case "confer": return x.confer(n[0], n[1]);
            case "conferred": return x.conferred(n[0], n[1], n[2]);
            case "count": return x.count(n[0]);
            case "tray": return x.tray(n[0], n[1]);
            case "cell": return x.cell(n[0], n[1], n[2]);
            case "made": return x.made(n[0], n[1]);
            case "taken": return x.taken(n[0], n[1]);
            default: throw new IllegalArgumentException("no such call: " + line);
        }
    }
}
