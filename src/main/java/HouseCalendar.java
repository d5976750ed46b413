/** A house's calendar; ../shared/DOC.md tells what each call answers. */
public final class HouseCalendar {
    public static final int NONE = -1, BAD = -2, STATE = -3, FULL = -4;
    public static final long NO = -4611686018427387904L;

    private static final int MISSING = -11, OUTSIDE = -12, OTHER_SORT = -13, BELOW_ZERO = -14;
    private static final int NO_LIKE = -100, NO_MOTION = -100000, FAULT_BASE = -100, WHY_BASE = -20;

    private static final int MOST_MEMBERS = 15, MOST_BILLS = 8, MOST_TEXTS = 8, MOST_SECTIONS = 10;
    private static final int MOST_PILED = 8, MOST_TOLD = 5, MOST_DAY = 999, MINUTES = 100;
    private static final int MOST_WORD = 60, MOST_PARTY = 3, MOST_LIKE = 9, ORDER_BASE = 6;
    private static final int TAPE_BYTES = 200, TRAYS = 4, TRAY_BYTES = 40;

    private static final int IN_COMMITTEE = 0, ON_CALENDAR = 1, UP = 2, PASSED = 3, ENDED = 4;
    private static final int MOTION = 0, AMEND = 1, PUT = 2, REPLACE = 3, TABLE = 4, BACK = 5, RULE = 6;
    private static final int NEITHER = 0, YES = 1, AGAINST = 2;
    private static final int RANK_PART = 0, MAY_PART = 1, PASS_PART = 2, QUORUM_PART = 3, PARTS = 4;

    private static final String FIRST_TEXT =
        "rank kind ; may 1 ; pass no < yes ; quorum members < there + there ;";

    private final Member[] members;
    private int memberCount;
    private final Bill[] bills;
    private int billCount;
    private final int[] calendar;
    private int calendarSize;
    private int up;
    private final Sections noSections;
    private final Motions pile;
    private final Foresight ahead;
    private final Text[] texts;
    private int textCount;
    private int rule;
    private final Reader reader;
    private final Machine machine;
    private final Ballot latest;
    private final Conference conference;
    private final Tray[] trays;
    private int today;
    private int minute;

    public HouseCalendar() {
        members = new Member[MOST_MEMBERS];
        for (int i = 0; i < MOST_MEMBERS; i++) members[i] = new Member();
        bills = new Bill[MOST_BILLS];
        for (int i = 0; i < MOST_BILLS; i++) bills[i] = new Bill();
        calendar = new int[MOST_BILLS];
        up = NONE;
        noSections = new Sections();
        pile = new Motions(MOST_PILED);
        ahead = new Foresight();
        texts = new Text[MOST_TEXTS];
        for (int i = 0; i < MOST_TEXTS; i++) texts[i] = new Text();
        reader = new Reader();
        machine = new Machine();
        latest = new Ballot();
        conference = new Conference();
        trays = new Tray[TRAYS];
        for (int i = 0; i < TRAYS; i++) trays[i] = new Tray();
        for (int i = 0; i < FIRST_TEXT.length(); i++) reader.add(FIRST_TEXT.charAt(i));
        reader.read(texts[0]);
        textCount = 1;
    }

    // ---- members

    public int member(int party) {
        if (party < 0 || party > MOST_PARTY) return BAD;
        if (memberCount >= members.length) return FULL;
        members[memberCount].party = party;
        memberCount++;
        return memberCount - 1;
    }

    public int like(int member, int word, int much) {
        if (!isMember(member) || !isWord(word) || much < -MOST_LIKE || much > MOST_LIKE) return NO_LIKE;
        return members[member].setLiking(word, much);
    }

    public int comes(int member, boolean is) {
        if (!isMember(member)) return BAD;
        if (members[member].there == is) return 0;
        members[member].there = is;
        return 1;
    }

    public int pair(int a, int b) {
        if (!isMember(a) || !isMember(b) || a == b) return BAD;
        if (members[a].other != NONE || members[b].other != NONE) return STATE;
        members[a].other = b;
        members[b].other = a;
        return 1;
    }

    public int part(int member) {
        if (!isMember(member)) return BAD;
        int other = members[member].other;
        if (!isMember(other)) return STATE;
        members[member].other = NONE;
        members[other].other = NONE;
        return other;
    }

    public int ask(int member, int how) {
        if (!isMember(member) || how < NEITHER || how > AGAINST) return BAD;
        int was = members[member].asked;
        members[member].asked = how;
        return was;
    }

    public int memberTold(int member, int what) {
        if (!isMember(member)) return BAD;
        Member m = members[member];
        switch (what) {
            case 0: return m.party;
            case 1: return m.there ? 1 : 0;
            case 2: return m.other;
            case 3: return m.asked;
            default: return BAD;
        }
    }

    // ---- bills

    public int bill() {
        if (billCount >= bills.length) return FULL;
        billCount++;
        return billCount - 1;
    }

    public int section(int bill, int word) {
        if (!isBill(bill) || !isWord(word)) return BAD;
        if (bills[bill].state != IN_COMMITTEE) return STATE;
        Sections row = bills[bill].sections;
        if (row.isFull()) return FULL;
        row.change(PUT, row.size, word);
        return row.size;
    }

    public int billTold(int bill, int what) {
        if (!isBill(bill)) return BAD;
        Bill b = bills[bill];
        switch (what) {
            case 0: return b.state;
            case 1: return b.sections.size;
            case 2: return placeOnCalendar(bill);
            case 3: return Integer.bitCount(b.names);
            default: return BAD;
        }
    }

    public int word(int bill, int section) {
        if (!isBill(bill)) return BAD;
        return bills[bill].sections.wordAt(section);
    }

    public long worth(int bill, int member) {
        if (!isBill(bill) || !isMember(member)) return NO;
        return bills[bill].sections.worthTo(members[member]);
    }

    public int report(int bill) {
        if (!isBill(bill)) return BAD;
        if (bills[bill].state != IN_COMMITTEE) return STATE;
        putOnCalendar(bill);
        return calendarSize - 1;
    }

    public int sign(int bill, int member) {
        if (!isBill(bill) || !isMember(member)) return BAD;
        Bill b = bills[bill];
        if (b.state != IN_COMMITTEE || (b.names >> member & 1) != 0) return STATE;
        b.names |= 1 << member;
        int names = Integer.bitCount(b.names);
        if (names + names > memberCount) putOnCalendar(bill);
        return names;
    }

    public int call() {
        if (up != NONE || calendarSize <= 0) return STATE;
        up = calendar[0];
        calendarSize--;
        for (int i = 0; i < calendarSize && i + 1 < calendar.length; i++) calendar[i] = calendar[i + 1];
        if (isBill(up)) bills[up].state = UP;
        return up;
    }

    private void putOnCalendar(int bill) {
        if (!isBill(bill) || calendarSize >= calendar.length) return;
        calendar[calendarSize] = bill;
        calendarSize++;
        bills[bill].state = ON_CALENDAR;
    }

    private int placeOnCalendar(int bill) {
        for (int i = 0; i < calendarSize && i < calendar.length; i++) {
            if (calendar[i] == bill) return i;
        }
        return NONE;
    }

    // ---- texts

    public int feed(int n, long bytes) {
        if (n < 1 || n > 8) return BAD;
        if (reader.size + n > TAPE_BYTES) return FULL;
        for (int i = 0; i < n; i++) reader.add((int) (bytes >> 8 * i & 255));
        return reader.size;
    }

    public int text() {
        if (textCount >= texts.length) return FULL;
        int fault = reader.read(texts[textCount]);
        if (fault != NONE) return FAULT_BASE - fault;
        textCount++;
        return textCount - 1;
    }

    public long says(int text, int part, int kind, int party, int yes, int no) {
        if (!isText(text) || part < 0 || part >= PARTS || !isKind(kind)) return NO;
        if (party < 0 || party > MOST_PARTY) return NO;
        if (yes < 0 || yes > MOST_MEMBERS || no < 0 || no > MOST_MEMBERS) return NO;
        machine.sets(kind, party, pile.size, yes, no);
        return comesTo(text, part);
    }

    // The names that are the same for every motion; the others are set ahead of it.
    private int comesTo(int text, int part) {
        if (!isText(text)) return 0;
        machine.setsHouse(minute, countThere(), memberCount);
        return machine.run(texts[text], part);
    }

    private int ruled(int part, int kind, int mover) {
        machine.sets(kind, partyOf(mover), pile.size, 0, 0);
        return comesTo(rule, part);
    }

    // ---- acts

    public int act(int kind, int member, int place, int word) {
        int why = hindrance(kind, member, place, word);
        if (why < 0) return why;
        if (why > 0) return WHY_BASE - why;
        pile.push(kind, member, isAmendment(kind) ? place : NONE, takesWord(kind) || kind == RULE ? word : NONE);
        minute++;
        return pile.size;
    }

    public int why(int kind, int member, int place, int word) {
        return hindrance(kind, member, place, word);
    }

    private int hindrance(int kind, int member, int place, int word) {
        if (!isKind(kind) || !isMember(member)) return BAD;
        if (takesWord(kind) && !isWord(word) || kind == RULE && !isText(word)) return BAD;
        if (isAmendment(kind) && up != NONE && !floor().has(kind, place)) return BAD;
        if (up == NONE && kind != RULE) return 1;
        if (minute >= MINUTES) return 2;
        if (!members[member].there) return 3;
        if ((pile.size == 0) != (kind == MOTION || kind == RULE)) return 4;
        int top = pile.size - 1;
        if (pile.has(top)) {
            int rankOfTop = ruled(RANK_PART, pile.kinds[top], pile.movers[top]);
            if (ruled(RANK_PART, kind, member) <= rankOfTop) return 5;
        }
        if (ruled(MAY_PART, kind, member) == 0) return 6;
        return pile.isFull() ? 7 : 0;
    }

    public int vote() {
        int top = pile.size - 1;
        if (!pile.has(top)) return WHY_BASE - 1;
        if (minute >= MINUTES) return WHY_BASE - 2;
        int kind = pile.kinds[top];
        int mover = pile.movers[top];
        if (ruled(QUORUM_PART, kind, mover) == 0) return WHY_BASE - 3;
        tally(latest, floor(), pile, top, pile.places[top]);
        machine.sets(kind, partyOf(mover), pile.size, latest.yes, latest.no);
        latest.carried = comesTo(rule, PASS_PART) != 0;
        pile.size--;
        if (latest.carried) carry(kind, pile.places[top], pile.words[top]);
        else if (kind == MOTION) leaveFloor(ENDED);
        minute++;
        return latest.carried ? 1 : 0;
    }

    private void carry(int kind, int place, int word) {
        switch (kind) {
            case MOTION: leaveFloor(PASSED); break;
            case TABLE: leaveFloor(ENDED); break;
            case BACK: leaveFloor(IN_COMMITTEE); break;
            case RULE: rule = word; break;
            default: amendFloor(kind, place, word); break;
        }
    }

    private void amendFloor(int kind, int place, int word) {
        if (!floor().change(kind, place, word)) return;
        settle(pile.places, pile.size, kind, place);
        ahead.told.size = 0;
    }

    private void leaveFloor(int state) {
        if (!isBill(up)) return;
        bills[up].state = state;
        if (state == IN_COMMITTEE) bills[up].names = 0;
        up = NONE;
        pile.size = 0;
        ahead.told.size = 0;
    }

    public int voted(int what) {
        switch (what) {
            case 0: return latest.yes;
            case 1: return latest.no;
            case 2: return latest.kind;
            case 3: return latest.carried ? 1 : 0;
            default: return BAD;
        }
    }

    public int would(int member) {
        if (!isMember(member)) return BAD;
        int top = pile.size - 1;
        if (!pile.has(top)) return NONE;
        return choice(members[member], floor(), pile, top, pile.places[top]);
    }

    public int motion(int i, int what) {
        if (!pile.has(i)) return NO_MOTION;
        switch (what) {
            case 0: return pile.kinds[i];
            case 1: return pile.movers[i];
            case 2: return pile.places[i];
            case 3: return pile.words[i];
            case 4: return ruled(RANK_PART, pile.kinds[i], pile.movers[i]);
            default: return NO_MOTION;
        }
    }

    public int yield() {
        if (pile.size <= 0) return STATE;
        pile.size--;
        return pile.size;
    }

    public int day() {
        if (today >= MOST_DAY) return FULL;
        today++;
        minute = 0;
        return today;
    }

    /** Fills the ballot with the votes on motion i of the row, which now names this place. */
    private void tally(Ballot ballot, Sections row, Motions motions, int i, int place) {
        ballot.yes = 0;
        ballot.no = 0;
        ballot.kind = motions.has(i) ? motions.kinds[i] : NONE;
        for (int m = 0; m < memberCount && m < members.length; m++) {
            int choice = choice(members[m], row, motions, i, place);
            if (choice == YES) ballot.yes++;
            else if (choice == AGAINST) ballot.no++;
        }
    }

    private int choice(Member m, Sections row, Motions motions, int i, int place) {
        if (!m.there || m.other != NONE || !motions.has(i)) return NEITHER;
        if (m.asked != NEITHER) return m.asked;
        int kind = motions.kinds[i];
        switch (kind) {
            case MOTION: return bySign(row.worthTo(m));
            case TABLE: return bySign(-row.worthTo(m));
            case BACK: return row.worthTo(m) == 0 ? YES : AGAINST;
            case RULE: return m.party == partyOf(motions.movers[i]) ? YES : AGAINST;
            default: return bySign(row.gain(m, kind, place, motions.words[i]));
        }
    }

    private static int bySign(int worth) {
        return worth > 0 ? YES : worth < 0 ? AGAINST : NEITHER;
    }

    /** Keeps each place at its SECTION, behind a change of this kind that was done at a place. */
    private static void settle(int[] places, int count, int kind, int at) {
        for (int i = 0; i < count && i < places.length; i++) {
            if (kind == PUT && places[i] >= at) places[i]++;
            else if (kind == AMEND && places[i] == at) places[i] = NONE;
            else if (kind == AMEND && places[i] > at) places[i]--;
        }
    }

    // ---- foreseen

    public int tell(int kind, int place, int word) {
        if (!isAmendment(kind) || takesWord(kind) && !isWord(word)) return BAD;
        if (up == NONE) return STATE;
        if (!floor().has(kind, place)) return BAD;
        if (ahead.told.isFull()) return FULL;
        ahead.told.push(kind, NONE, place, takesWord(kind) ? word : NONE);
        return ahead.told.size;
    }

    public long foresee(int order, int member) {
        if (!isMember(member) || up == NONE || !ahead.namesEachOnce(order)) return NO;
        ahead.begin(floor());
        int rest = order;
        for (int depth = 0; depth < ahead.told.size; depth++) {
            foreseeOne(depth, rest % ORDER_BASE);
            rest /= ORDER_BASE;
        }
        return ahead.worthBehindAll(members[member]);
    }

    public int best(int member) {
        if (!isMember(member)) return BAD;
        if (up == NONE) return STATE;
        ahead.begin(floor());
        search(this, members[member], 0, 0, 0, 1);
        return ahead.bestOrder;
    }

    // Orders that begin alike share the votes on their beginning.
    private static void search(HouseCalendar house, Member m, int depth, int used, int order, int power) {
        Foresight ahead = house.ahead;
        if (depth >= ahead.told.size || depth >= MOST_TOLD) {
            ahead.weigh(order, ahead.worthBehindAll(m));
            return;
        }
        for (int i = 0; i < ahead.told.size; i++) {
            if ((used >> i & 1) != 0) continue;
            house.foreseeOne(depth, i);
            search(house, m, depth + 1, used | 1 << i, order + i * power, power * ORDER_BASE);
        }
    }

    /** Votes on the one that was TOLD i-th behind as many as the depth says; the next depth has what comes of it. */
    private void foreseeOne(int depth, int i) {
        if (!ahead.told.has(i) || !ahead.goesOn(depth)) return;
        Sections draft = ahead.drafts[depth + 1];
        int[] places = ahead.places[depth + 1];
        int kind = ahead.told.kinds[i];
        int place = places[i];
        if (!draft.canChange(kind, place)) return;
        Ballot ballot = ahead.ballot;
        tally(ballot, draft, ahead.told, i, place);
        machine.sets(kind, 0, 0, ballot.yes, ballot.no);
        if (comesTo(rule, PASS_PART) == 0) return;
        draft.change(kind, place, ahead.told.words[i]);
        settle(places, ahead.told.size, kind, place);
    }

    public int confer(int a, int b) {
        if (!isBill(a) || !isBill(b) || a == b) return BAD;
        return conference.bring(bills[a].sections, bills[b].sections);
    }

    public int conferred(int a, int b, int i) {
        if (!isBill(a) || !isBill(b) || a == b) return BAD;
        int size = conference.bring(bills[a].sections, bills[b].sections);
        return i >= 0 && i < size && i < MOST_SECTIONS ? conference.row[i] : NONE;
    }

    public int count(int what) {
        switch (what) {
            case 0: return memberCount;
            case 1: return countThere();
            case 2: return billCount;
            case 3: return textCount;
            case 4: return pile.size;
            case 5: return reader.size;
            case 6: return today;
            case 7: return minute;
            case 8: return up;
            case 9: return rule;
            case 10: return ahead.told.size;
            case 11: return calendarSize;
            default: return BAD;
        }
    }

    // ---- the host

    public int tray(int tray, int n) {
        if (!isTray(tray) || n > TRAY_BYTES) return BAD;
        if (n < NONE) return BELOW_ZERO;
        trays[tray].reset(n);
        return 1;
    }

    public int cell(int tray, int i, int v) {
        if (!isTray(tray)) return BAD;
        Tray t = trays[tray];
        if (t.size == NONE) return MISSING;
        if (!t.has(i)) return OUTSIDE;
        t.bytes[i] = v & 255;
        return 1;
    }

    public int made(int tray, int from) {
        if (!isTray(tray)) return BAD;
        Tray t = trays[tray];
        if (t.size == NONE) return MISSING;
        if (from > TRAY_BYTES || !t.has(from) || !t.has(from + 3)) return OUTSIDE;
        return act(t.bytes[from], t.bytes[from + 1], t.bytes[from + 2], t.bytes[from + 3]);
    }

    public int taken(int i, int k) {
        if (!isKind(k)) return BAD;
        if (!pile.has(i)) return MISSING;
        return isUnder(pile.kinds[i], k) ? pile.movers[i] : OTHER_SORT;
    }

    // ---- what stands and what does not

    private boolean isMember(int member) { return member >= 0 && member < memberCount && member < members.length; }

    private boolean isBill(int bill) { return bill >= 0 && bill < billCount && bill < bills.length; }

    private boolean isText(int text) { return text >= 0 && text < textCount && text < texts.length; }

    private static boolean isTray(int tray) { return tray >= 0 && tray < TRAYS; }

    private static boolean isWord(int word) { return word >= 1 && word <= MOST_WORD; }

    private static boolean isKind(int kind) { return kind >= MOTION && kind <= RULE; }

    private static boolean isAmendment(int kind) { return kind >= AMEND && kind <= REPLACE; }

    private static boolean takesWord(int kind) { return kind == PUT || kind == REPLACE; }

    private static boolean isUnder(int kind, int above) {
        return kind == above || above == MOTION || above == AMEND && isAmendment(kind);
    }

    private int partyOf(int member) { return isMember(member) ? members[member].party : 0; }

    private Sections floor() { return isBill(up) ? bills[up].sections : noSections; }

    private int countThere() {
        int there = 0;
        for (int m = 0; m < memberCount && m < members.length; m++) {
            if (members[m].there) there++;
        }
        return there;
    }

    private static final class Member {
        int party;
        boolean there = true;
        int other = NONE;
        int asked = NEITHER;
        final int[] likes = new int[MOST_WORD + 1];

        int liking(int word) { return word >= 0 && word < likes.length ? likes[word] : 0; }

        int setLiking(int word, int much) {
            int was = liking(word);
            if (word >= 0 && word < likes.length) likes[word] = much;
            return was;
        }
    }

    private static final class Bill {
        int state = IN_COMMITTEE;
        // A bit for each MEMBER that signed.
        int names;
        final Sections sections = new Sections();
    }

    private static final class Sections {
        int size;
        final int[] words = new int[MOST_SECTIONS];

        boolean isFull() { return size >= words.length; }

        int wordAt(int i) { return i >= 0 && i < size && i < words.length ? words[i] : NONE; }

        int worthTo(Member m) {
            int sum = 0;
            for (int i = 0; i < size && i < words.length; i++) sum += m.liking(words[i]);
            return sum;
        }

        boolean has(int kind, int place) {
            return place >= 0 && (kind == PUT ? place <= size : place < size);
        }

        boolean canChange(int kind, int place) {
            return place >= 0 && (kind == PUT ? place <= size && size < words.length : place < size);
        }

        int gain(Member m, int kind, int place, int word) {
            if (!canChange(kind, place)) return 0;
            int comes = kind == AMEND ? 0 : m.liking(word);
            int goes = kind == PUT ? 0 : m.liking(wordAt(place));
            return comes - goes;
        }

        boolean change(int kind, int place, int word) {
            if (!canChange(kind, place)) return false;
            if (kind == PUT) putIn(place, word);
            else if (kind == AMEND) takeOut(place);
            else if (place < words.length) words[place] = word;
            return true;
        }

        private void putIn(int place, int word) {
            if (place < 0 || place > size || size >= words.length) return;
            for (int i = size; i > place; i--) words[i] = words[i - 1];
            words[place] = word;
            size++;
        }

        private void takeOut(int place) {
            if (place < 0 || place >= size || size > words.length) return;
            for (int i = place; i + 1 < size; i++) words[i] = words[i + 1];
            size--;
        }

        void copyFrom(Sections other) {
            size = other.size;
            for (int i = 0; i < size && i < words.length; i++) words[i] = other.words[i];
        }
    }

    /** A row of motions; each place is NONE where it has none, or is GONE. */
    private static final class Motions {
        int size;
        final int most;
        final int[] kinds, movers, places, words;

        Motions(int most) {
            int length = most > 0 ? most : 0;
            this.most = length;
            kinds = new int[length];
            movers = new int[length];
            places = new int[length];
            words = new int[length];
        }

        boolean isFull() { return size >= most; }

        boolean has(int i) { return i >= 0 && i < size && i < most; }

        void push(int kind, int mover, int place, int word) {
            if (size < 0 || isFull()) return;
            kinds[size] = kind;
            movers[size] = mover;
            places[size] = place;
            words[size] = word;
            size++;
        }
    }

    private static final class Ballot {
        int yes, no;
        int kind = NONE;
        boolean carried;
    }

    /** What was TOLD, and for each depth of an order the draft and the places as they stand there. */
    private static final class Foresight {
        final Motions told = new Motions(MOST_TOLD);
        final Sections[] drafts = new Sections[MOST_TOLD + 1];
        final int[][] places = new int[MOST_TOLD + 1][MOST_TOLD];
        final Ballot ballot = new Ballot();
        int bestOrder;
        int bestWorth;

        Foresight() {
            for (int i = 0; i < drafts.length; i++) drafts[i] = new Sections();
        }

        void begin(Sections row) {
            bestOrder = NONE;
            drafts[0].copyFrom(row);
            for (int i = 0; i < told.size && i < MOST_TOLD; i++) places[0][i] = told.places[i];
        }

        /** Makes the next depth like this one; false where there is none. */
        boolean goesOn(int depth) {
            if (depth < 0 || depth >= MOST_TOLD) return false;
            drafts[depth + 1].copyFrom(drafts[depth]);
            for (int i = 0; i < told.size && i < MOST_TOLD; i++) places[depth + 1][i] = places[depth][i];
            return true;
        }

        boolean namesEachOnce(int order) {
            int rest = order;
            int seen = 0;
            for (int i = 0; i < told.size; i++) {
                int one = rest % ORDER_BASE;
                if (!told.has(one) || (seen >> one & 1) != 0) return false;
                seen |= 1 << one;
                rest /= ORDER_BASE;
            }
            return rest == 0;
        }

        int worthBehindAll(Member m) {
            return told.size >= 0 && told.size < drafts.length ? drafts[told.size].worthTo(m) : 0;
        }

        void weigh(int order, int worth) {
            boolean better = bestOrder == NONE || worth > bestWorth || worth == bestWorth && order < bestOrder;
            if (!better) return;
            bestOrder = order;
            bestWorth = worth;
        }
    }

    /** The code of a TEXT's four E, operands ahead of what is done with them. */
    private static final class Text {
        static final int OR = -9, AND = -10, NOT = -11, LESS = -12, SAME = -13;
        static final int PLUS = -14, MINUS = -15, TIMES = -16, NEGATE = -17;

        final int[] code = new int[TAPE_BYTES];
        int size;
        // Where each part begins, and where the last one ends.
        final int[] starts = new int[PARTS + 1];

        void add(int op) {
            if (size < 0 || size >= code.length) return;
            code[size] = op;
            size++;
        }
    }

    /** THE TAPE and its reading: a method for each thing of the grammar, with one TOKEN looked at ahead. */
    private static final class Reader {
        private static final int MOST_OPEN = 5, MOST_LETTERS = 7, MOST_DIGITS = 4;
        // A TOKEN is a sign's own number, or one of these; 0 to 7 are the NAMES.
        private static final int NAMES = 8, RANK = 8, OR = 12, AND = 13, NOT = 14;
        private static final int NUMBER = 15, END = 16, WRONG = 17;
        // Eight signs for each, in the order of the numbers.
        private static final String KNOWN_WORDS =
            "kind    depth   minute  party   there   members yes     no      rank    may     pass    quorum  or      and     not     ";
        private static final int KNOWN_COUNT = 15, KNOWN_WIDTH = 8;

        private final int[] tape = new int[TAPE_BYTES];
        int size;
        private int at, after;
        private int token, number;
        private int open, fault;
        private Text into;

        void add(int value) {
            if (size < 0 || size >= tape.length) return;
            tape[size] = value;
            size++;
        }

        /** Reads THE TAPE into a TEXT, and empties it: the place of the FAULT, or NONE. */
        int read(Text target) {
            into = target;
            into.size = 0;
            after = 0;
            open = 0;
            fault = NONE;
            goOn();
            for (int p = 0; p < PARTS; p++) {
                expect(RANK + p);
                into.starts[p] = into.size;
                readSome();
                expect(';');
            }
            into.starts[PARTS] = into.size;
            if (token != END) fail();
            size = 0;
            return fault;
        }

        // Only the first FAULT counts; behind it no TOKEN can stand anywhere, so that all reading ends.
        private void fail() {
            if (fault == NONE) fault = at;
            token = WRONG;
        }

        private void expect(int wanted) {
            if (token == wanted) goOn();
            else fail();
        }

        private void readSome() {
            readAll();
            for (int n = 0; n < TAPE_BYTES && token == OR; n++) {
                goOn();
                readAll();
                into.add(Text.OR);
            }
        }

        private void readAll() {
            readClaim();
            for (int n = 0; n < TAPE_BYTES && token == AND; n++) {
                goOn();
                readClaim();
                into.add(Text.AND);
            }
        }

        private void readClaim() {
            if (token == NOT) {
                readOpened();
                return;
            }
            readSum();
            if (token == '<' || token == '=') {
                int op = token == '<' ? Text.LESS : Text.SAME;
                goOn();
                readSum();
                into.add(op);
            }
        }

        private void readSum() {
            readTerm();
            for (int n = 0; n < TAPE_BYTES && (token == '+' || token == '-'); n++) {
                int op = token == '+' ? Text.PLUS : Text.MINUS;
                goOn();
                readTerm();
                into.add(op);
            }
        }

        private void readTerm() {
            readOne();
            for (int n = 0; n < TAPE_BYTES && token == '*'; n++) {
                goOn();
                readOne();
                into.add(Text.TIMES);
            }
        }

        private void readOne() {
            if (token == '(' || token == '-') {
                readOpened();
            } else if (token == NUMBER) {
                into.add(number);
                goOn();
            } else if (token >= 0 && token < NAMES) {
                into.add(-1 - token);
                goOn();
            } else {
                fail();
            }
        }

        // What stays open over other TOKENS; the limit also keeps the recursion low.
        private void readOpened() {
            if (open >= MOST_OPEN) {
                fail();
                return;
            }
            int opener = token;
            open++;
            goOn();
            if (opener == '(') {
                readSome();
                expect(')');
            } else if (opener == NOT) {
                readClaim();
                into.add(Text.NOT);
            } else {
                readOne();
                into.add(Text.NEGATE);
            }
            open--;
        }

        /** The next TOKEN. */
        private void goOn() {
            if (fault != NONE) return;
            while (after < size && (byteAt(after) == ' ' || byteAt(after) == '\n')) after++;
            at = after;
            if (at >= size) token = END;
            else if (isLetter(at)) readWord();
            else if (isDigit(at)) readNumber();
            else readSign();
        }

        private void readWord() {
            while (after < size && after - at < MOST_LETTERS && isLetter(after)) after++;
            for (int k = 0; k < KNOWN_COUNT; k++) {
                if (isKnown(k)) {
                    token = k;
                    return;
                }
            }
            fail();
        }

        private boolean isKnown(int k) {
            for (int i = 0; i < KNOWN_WIDTH; i++) {
                int letter = at + i < after ? byteAt(at + i) : ' ';
                int place = KNOWN_WIDTH * k + i;
                if (place < 0 || place >= KNOWN_WORDS.length() || KNOWN_WORDS.charAt(place) != letter) return false;
            }
            return true;
        }

        private void readNumber() {
            number = 0;
            while (after < size && isDigit(after)) {
                number = number * 10 + byteAt(after) - '0';
                after++;
            }
            if (after - at > MOST_DIGITS) fail();
            else token = NUMBER;
        }

        private void readSign() {
            int sign = byteAt(at);
            after++;
            switch (sign) {
                case '(': case ')': case ';': case '+': case '-': case '*': case '<': case '=':
                    token = sign;
                    break;
                default:
                    fail();
                    break;
            }
        }

        private int byteAt(int i) { return i >= 0 && i < size && i < tape.length ? tape[i] : 0; }

        private boolean isLetter(int i) { return byteAt(i) >= 'a' && byteAt(i) <= 'z'; }

        private boolean isDigit(int i) { return byteAt(i) >= '0' && byteAt(i) <= '9'; }
    }

    /** Runs a TEXT's code with what its NAMES stand for now. */
    private static final class Machine {
        private final int[] names = new int[Reader.NAMES];
        private final int[] stack = new int[TAPE_BYTES];

        void sets(int kind, int party, int depth, int yes, int no) {
            names[0] = kind;
            names[1] = depth;
            names[3] = party;
            names[6] = yes;
            names[7] = no;
        }

        void setsHouse(int minute, int there, int members) {
            names[2] = minute;
            names[4] = there;
            names[5] = members;
        }

        int run(Text text, int p) {
            if (p < 0 || p >= PARTS) return 0;
            int top = 0;
            for (int i = text.starts[p]; i < text.starts[p + 1] && i < text.code.length; i++) {
                int op = text.code[i];
                if (op >= -names.length) {
                    if (top >= stack.length) return 0;
                    stack[top] = op >= 0 ? op : names[-1 - op];
                    top++;
                } else if (op == Text.NOT || op == Text.NEGATE) {
                    if (top < 1) return 0;
                    stack[top - 1] = op == Text.NEGATE ? -stack[top - 1] : stack[top - 1] == 0 ? 1 : 0;
                } else {
                    if (top < 2) return 0;
                    top--;
                    stack[top - 1] = joined(op, stack[top - 1], stack[top]);
                }
            }
            return top < 1 ? 0 : stack[top - 1];
        }

        private static int joined(int op, int left, int right) {
            switch (op) {
                case Text.OR: return left != 0 || right != 0 ? 1 : 0;
                case Text.AND: return left != 0 && right != 0 ? 1 : 0;
                case Text.LESS: return left < right ? 1 : 0;
                case Text.SAME: return left == right ? 1 : 0;
                case Text.PLUS: return left + right;
                case Text.MINUS: return left - right;
                case Text.TIMES: return left * right;
                default: return 0;
            }
        }
    }

    /** Two rows of WORDS brought to the longest row that both have. */
    private static final class Conference {
        final int[] row = new int[MOST_SECTIONS];
        // How long a row the rests of both, from each two places on, have at the most.
        private final int[][] longest = new int[MOST_SECTIONS + 1][MOST_SECTIONS + 1];

        int bring(Sections a, Sections b) {
            if (a.size > MOST_SECTIONS || b.size > MOST_SECTIONS) return 0;
            measure(a, b);
            int size = longest[0][0];
            int i = 0;
            int j = 0;
            for (int k = 0; k < size && k < MOST_SECTIONS; k++) {
                int word = leastNext(a, b, i, j, size - k - 1);
                row[k] = word;
                i = placeFrom(a, i, word) + 1;
                j = placeFrom(b, j, word) + 1;
            }
            return size;
        }

        private void measure(Sections a, Sections b) {
            for (int i = a.size; i >= 0; i--) {
                for (int j = b.size; j >= 0; j--) {
                    if (i == a.size || j == b.size) longest[i][j] = 0;
                    else if (a.words[i] == b.words[j]) longest[i][j] = longest[i + 1][j + 1] + 1;
                    else longest[i][j] = Math.max(longest[i + 1][j], longest[i][j + 1]);
                }
            }
        }

        // Of a WORD's places only the first matters: behind it the most is left.
        private int leastNext(Sections a, Sections b, int from, int bFrom, int left) {
            int least = MOST_WORD + 1;
            for (int i = from; i < a.size; i++) {
                int word = a.wordAt(i);
                int j = placeFrom(b, bFrom, word);
                if (word < least && j < b.size && longest[i + 1][j + 1] >= left) least = word;
            }
            return least;
        }

        private static int placeFrom(Sections row, int from, int word) {
            int i = from;
            while (i < row.size && row.wordAt(i) != word) i++;
            return i;
        }
    }

    private static final class Tray {
        int size = NONE;
        final int[] bytes = new int[TRAY_BYTES];

        boolean has(int i) { return i >= 0 && i < size && i < bytes.length; }

        void reset(int n) {
            size = n;
            for (int i = 0; i < bytes.length; i++) bytes[i] = 0;
        }
    }
}
