/** Halls of villages, their bookings, heat, keys, damage and meetings: ../shared/DOC.md says what each call answers. */
public final class VillageHalls {
    public static final int NONE = -1000000, BAD = -1000001, STATE = -1000002, FULL = -1000003;

    private static final int FINDING = -1000010, FAULT = -1000100;
    private static final int NULL = 1, PLACE = 2, KIND = 3, SIZE = 4, STORE = 5;
    private static final int HALLS = 4, FLOORS = 2, USES = 5, FUNERAL_USE = 3;
    private static final int LAST_DAY = 364, QUARTERS = 96, MINUTES = 15;
    private static final int BOOKING = 0, HELD = 1, FIRM = 2, GONE = 3, OUT = 4;

    private final Sheets sheets = new Sheets();
    private final Hall[] halls = newHalls();
    private final Tape tape = new Tape();
    private final RuleReader reader = new RuleReader(tape, halls);
    private final Diary diary = new Diary(halls);
    private final FuneralPlan plan = new FuneralPlan(diary, halls);
    private final Log coins = new Log();
    private final Log gifts = new Log();
    private final Log looks = new Log();
    private final Meetings meetings = new Meetings();
    private final Asks asks = new Asks();
    private int today = 0;
    private int latestFinding = 0;

    public VillageHalls() {
    }

    // ---- sheets

    public int sheet(int sheet, int lane, int n) {
        if (!Sheets.isNumber(sheet) || !within(lane, 0, Sheets.INTS) || n > Sheets.MOST_ITEMS) {
            return BAD;
        }
        if (n < 0) {
            return found(SIZE);
        }
        sheets.lay(sheet, lane, n);
        return passed(n);
    }

    public int set(int sheet, int i, int v) {
        if (!Sheets.isNumber(sheet)) {
            return BAD;
        }
        if (sheets.isMissing(sheet)) {
            return found(NULL);
        }
        if (!sheets.hasPlaces(sheet, i, 1)) {
            return found(PLACE);
        }
        return passed(sheets.put(sheet, i, v));
    }

    public int copy(int a, int i, int b, int j, int n) {
        if (!Sheets.isNumber(a) || !Sheets.isNumber(b)) {
            return BAD;
        }
        if (sheets.isMissing(a) || sheets.isMissing(b)) {
            return found(NULL);
        }
        if (!sheets.areOfOneLane(a, b)) {
            return found(STORE);
        }
        if (!sheets.hasPlaces(a, i, n) || !sheets.hasPlaces(b, j, n)) {
            return found(PLACE);
        }
        sheets.carry(a, i, b, j, n);
        return passed(n);
    }

    public int drop(int sheet) {
        if (!Sheets.isNumber(sheet)) {
            return BAD;
        }
        if (sheets.isMissing(sheet)) {
            return found(NULL);
        }
        return passed(sheets.remove(sheet));
    }

    // ---- rules

    public int feed(long w, int n) {
        if (!within(n, 1, 8)) {
            return BAD;
        }
        if (!tape.hasRoomFor(n)) {
            return FULL;
        }
        tape.append(w, n);
        return tape.length;
    }

    public int rules() {
        return reader.readTape() ? reader.done : FAULT - reader.faultPlace;
    }

    public int fault() {
        return reader.faultNumber;
    }

    public int hall(int hall, int what) {
        return isHall(hall) ? halls[hall].tell(what) : BAD;
    }

    // ---- bookings

    public int book(int sheet, int i) {
        if (!Sheets.isNumber(sheet)) {
            return BAD;
        }
        if (diary.isFull()) {
            return FULL;
        }
        if (sheets.isMissing(sheet)) {
            return found(NULL);
        }
        if (!sheets.hasPlaces(sheet, i, Booking.ITEMS)) {
            return found(PLACE);
        }
        int number = diary.add(sheets, sheet, i);
        return number == NONE ? BAD : passed(number);
    }

    public int cancel(int booking, int day) {
        if (!diary.has(booking)) {
            return BAD;
        }
        Booking b = diary.get(booking);
        if (!within(day, b.came, b.day)) {
            return BAD;
        }
        if (b.cancelled != NONE) {
            return STATE;
        }
        b.cancelled = day;
        return 1;
    }

    public int told(int booking, int what) {
        if (!diary.has(booking)) {
            return BAD;
        }
        Booking b = diary.get(booking);
        return what == 10 ? diary.priceOf(b) : b.tell(what);
    }

    public int clash(int a, int b) {
        if (!diary.has(a) || !diary.has(b) || a == b) {
            return BAD;
        }
        return diary.areClashing(diary.get(a), diary.get(b)) ? 1 : 0;
    }

    public int holding(int day, int what) {
        if (!isDay(day)) {
            return BAD;
        }
        switch (what) {
            case 0: return diary.heldOn(day);
            case 1: return diary.thereOn(day);
            case 2: return diary.pricesOf(diary.heldOn(day));
            default: return BAD;
        }
    }

    public int most(int hall, int floor, int day, int what) {
        if (!isHall(hall) || !within(floor, 0, FLOORS - 1) || !isDay(day) || !within(what, 0, 1)) {
            return BAD;
        }
        int set = diary.worthiest(hall, floor, day, today);
        return what == 0 ? set : diary.pricesOf(set);
    }

    public int funeral(int hall, int day, int from, int to, int people, int what) {
        if (!isHall(hall) || !isDay(day) || !within(people, 1, Hall.MOST_FIRE)) {
            return BAD;
        }
        if (!isSpan(from, to) || !within(what, 0, Diary.MOST + 2)) {
            return BAD;
        }
        plan.make(hall, day, from, to, people, today);
        return plan.tell(what);
    }

    // ---- heat, keys, looks

    public int coin(int hall, int day, int quarter, int minutes) {
        if (!isMoment(hall, day, quarter, QUARTERS - 1) || !within(minutes, 1, 600)) {
            return BAD;
        }
        return coins.add(moment(day, quarter), hall, minutes, 0);
    }

    public int run(int hall, int day, int quarter) {
        if (!isMoment(hall, day, quarter, QUARTERS)) {
            return BAD;
        }
        return minutesRun(hall, moment(day, quarter));
    }

    public int meter(int hall, int day, int quarter, int minutes) {
        if (!isMoment(hall, day, quarter, QUARTERS) || !within(minutes, 0, 100000)) {
            return BAD;
        }
        int ran = minutesRun(hall, moment(day, quarter));
        return within(minutes, ran - 15, ran + 15) ? 1 : 0;
    }

    public int give(int key, int from, int to, int day) {
        if (!isKey(key) || !within(from, 0, 9) || !within(to, 0, 9) || from == to || !isDay(day)) {
            return BAD;
        }
        return gifts.add(day, key, from, to);
    }

    public int key(int key, int day, int what) {
        if (!isKey(key) || !isDay(day) || !within(what, 0, 1)) {
            return BAD;
        }
        int owner = NONE;
        int wrong = 0;
        for (int i = 0; i < gifts.size && gifts.time[i] <= day; i++) {
            if (gifts.thing[i] != key) {
                continue;
            }
            if (owner == NONE || owner == gifts.first[i]) {
                owner = gifts.second[i];
            } else {
                wrong++;
            }
        }
        return what == 0 ? owner : wrong;
    }

    public int look(int hall, int day, int quarter, int damage) {
        if (!isMoment(hall, day, quarter, QUARTERS - 1) || !within(damage, 0, 255)) {
            return BAD;
        }
        return looks.add(moment(day, quarter), hall, damage, 0);
    }

    public int home(int hall, int damage) {
        if (!isHall(hall) || !within(damage, 0, 7)) {
            return BAD;
        }
        int without = NONE;
        for (int i = 0; i < looks.size; i++) {
            if (looks.thing[i] != hall) {
                continue;
            }
            if ((looks.first[i] >> damage & 1) == 1) {
                return without == NONE ? NONE : onlyOneBetween(hall, without, looks.time[i]);
            }
            without = looks.time[i];
        }
        return NONE;
    }

    // ---- meetings

    public int meeting(int members, int yes, int no, int quorum, int hangs) {
        if (!within(members, 1, 99) || !within(yes, 0, members) || !within(no, 0, members - yes)) {
            return BAD;
        }
        if (!within(quorum, 0, 99) || (hangs != NONE && !meetings.has(hangs))) {
            return BAD;
        }
        return meetings.isFull() ? FULL : meetings.add(yes, no, quorum, hangs);
    }

    public int met(int meeting, int what) {
        if (!meetings.has(meeting)) {
            return BAD;
        }
        switch (what) {
            case 0: return meetings.valid[meeting] ? 1 : 0;
            case 1: return meetings.carried[meeting] ? 1 : 0;
            case 2: return meetings.hangingOn(meeting);
            default: return BAD;
        }
    }

    // ---- asked

    public int day(int day) {
        if (!isDay(day)) {
            return BAD;
        }
        int before = today;
        today = day;
        return before;
    }

    public int kind(int booking) {
        return diary.has(booking) ? diary.kindOf(booking, today, diary.heldOn(today)) : BAD;
    }

    public int as(int booking, int kind) {
        if (!diary.has(booking) || !within(kind, BOOKING, OUT)) {
            return BAD;
        }
        int is = diary.kindOf(booking, today, diary.heldOn(today));
        if (kind != BOOKING && kind != is && !(kind == HELD && is == FIRM)) {
            return found(KIND);
        }
        return passed(diary.get(booking).day);
    }

    public int ask(int booking, int what) {
        if (!diary.has(booking) || !within(what, 0, 1)) {
            return BAD;
        }
        Booking b = diary.get(booking);
        int is = diary.kindOf(booking, today, diary.heldOn(today));
        asks.about(b, diary.priceOf(b));
        return what == 0 ? asks.sizeAs(is) : asks.markAs(is);
    }

    public int trace(int i) {
        return asks.traced(i);
    }

    public int count(int what) {
        switch (what) {
            case 0: return sheets.howMany();
            case 1: return diary.size;
            case 2: return howManyOf(HELD) + howManyOf(FIRM);
            case 3: return howManyOf(FIRM);
            case 4: return howManyOf(GONE);
            case 5: return howManyOf(OUT);
            case 6: return coins.size;
            case 7: return meetings.size;
            case 8: return tape.length;
            default: return BAD;
        }
    }

    public int status() {
        return latestFinding;
    }

    // ---- within

    private int found(int finding) {
        latestFinding = finding;
        return FINDING - finding;
    }

    private int passed(int answer) {
        latestFinding = 0;
        return answer;
    }

    private static Hall[] newHalls() {
        Hall[] made = new Hall[HALLS];
        for (int h = 0; h < HALLS; h++) {
            made[h] = new Hall();
        }
        return made;
    }

    private static boolean within(int v, int least, int greatest) {
        return v >= least && v <= greatest;
    }

    private static boolean isHall(int hall) {
        return within(hall, 0, HALLS - 1);
    }

    private static boolean isKey(int key) {
        return within(key, 0, 3);
    }

    private static boolean isDay(int day) {
        return within(day, 0, LAST_DAY);
    }

    private static boolean isSpan(int from, int to) {
        return from >= 0 && from < to && to <= QUARTERS;
    }

    private static boolean isMoment(int hall, int day, int quarter, int lastQuarter) {
        return isHall(hall) && isDay(day) && within(quarter, 0, lastQuarter);
    }

    // Quarters since day 0: so quarter 96 of a day is quarter 0 of the next.
    private static int moment(int day, int quarter) {
        return day * QUARTERS + quarter;
    }

    private int minutesRun(int hall, int until) {
        int now = until * MINUTES;
        int ran = 0;
        int end = 0;
        for (int i = 0; i < coins.size && coins.time[i] <= until; i++) {
            if (coins.thing[i] == hall) {
                int start = Math.max(end, coins.time[i] * MINUTES);
                end = start + coins.first[i];
                ran += Math.max(0, Math.min(end, now) - start);
            }
        }
        return ran;
    }

    private int onlyOneBetween(int hall, int without, int with) {
        int held = diary.heldOn(LAST_DAY);
        int only = NONE;
        for (int k = 0; k < diary.size; k++) {
            Booking b = diary.get(k);
            boolean counts = (held >> k & 1) == 1 && b.hall == hall;
            if (counts && isPartlyBetween(b, without, with)) {
                if (only != NONE) {
                    return NONE;
                }
                only = k;
            }
        }
        return only;
    }

    // Told by the time that both share, so that looks of one quarter, with no time between them, share none.
    private static boolean isPartlyBetween(Booking b, int start, int end) {
        return Math.max(moment(b.day, b.from), start) < Math.min(moment(b.day, b.to), end);
    }

    private int howManyOf(int kind) {
        int held = diary.heldOn(today);
        int n = 0;
        for (int k = 0; k < diary.size; k++) {
            if (diary.kindOf(k, today, held) == kind) {
                n++;
            }
        }
        return n;
    }

    /** All sheets' items lie in one row, so that laying a sheet makes no new one. */
    private static final class Sheets {
        static final int SHEETS = 8, MOST_ITEMS = 60;
        static final int MISSING = -1, BYTES = 0, SHORTS = 1, INTS = 2;

        private final int[] lanes = new int[SHEETS];
        private final int[] sizes = new int[SHEETS];
        private final int[] items = new int[SHEETS * MOST_ITEMS];

        Sheets() {
            for (int s = 0; s < SHEETS; s++) {
                lanes[s] = MISSING;
            }
        }

        static boolean isNumber(int s) {
            return within(s, 0, SHEETS - 1);
        }

        boolean isMissing(int s) {
            return lanes[s] == MISSING;
        }

        // Told by a difference, because i + n may wrap around.
        boolean hasPlaces(int s, int i, int n) {
            return i >= 0 && n >= 0 && n <= sizes[s] && i <= sizes[s] - n;
        }

        boolean areOfOneLane(int a, int b) {
            return lanes[a] == lanes[b];
        }

        void lay(int s, int lane, int n) {
            lanes[s] = lane;
            sizes[s] = n;
            for (int i = 0; i < n; i++) {
                items[s * MOST_ITEMS + i] = 0;
            }
        }

        int put(int s, int i, int v) {
            int kept = v;
            if (lanes[s] == BYTES) {
                kept = (byte) v;
            } else if (lanes[s] == SHORTS) {
                kept = (short) v;
            }
            items[s * MOST_ITEMS + i] = kept;
            return kept;
        }

        int item(int s, int i) {
            return items[s * MOST_ITEMS + i];
        }

        void carry(int a, int i, int b, int j, int n) {
            System.arraycopy(items, a * MOST_ITEMS + i, items, b * MOST_ITEMS + j, n);
        }

        int remove(int s) {
            lanes[s] = MISSING;
            return sizes[s];
        }

        int howMany() {
            int n = 0;
            for (int s = 0; s < SHEETS; s++) {
                if (!isMissing(s)) {
                    n++;
                }
            }
            return n;
        }
    }

    /** The rules of one hall. */
    private static final class Hall {
        static final int MOST_SETUP = 8, MOST_LICENCES = 50, MOST_RATE = 1000;
        static final int MOST_LATE = 60, MOST_FORFEIT = 100, MOST_FIRE = 500;

        int setup = 2;
        int licences = 12;
        int late = 7;
        int forfeit = 50;
        final int[] fire = new int[FLOORS];
        final int[] rate = new int[USES];
        final int[] rank = new int[USES];

        Hall() {
            for (int f = 0; f < FLOORS; f++) {
                fire[f] = 100;
            }
            for (int u = 0; u < USES; u++) {
                rate[u] = 10;
                rank[u] = u;
            }
        }

        void takeOver(Hall other) {
            setup = other.setup;
            licences = other.licences;
            late = other.late;
            forfeit = other.forfeit;
            for (int f = 0; f < FLOORS; f++) {
                fire[f] = other.fire[f];
            }
            for (int u = 0; u < USES; u++) {
                rate[u] = other.rate[u];
                rank[u] = other.rank[u];
            }
        }

        // Those between its new rank and its old one fall back by one, so the others stay as they stood.
        void raise(int use, int to) {
            int old = rank[use];
            for (int u = 0; u < USES; u++) {
                if (rank[u] >= to && rank[u] < old) {
                    rank[u]++;
                }
            }
            rank[use] = to;
        }

        int tell(int what) {
            if (within(what, 10, 9 + USES)) {
                return rate[what - 10];
            }
            if (within(what, 20, 19 + USES)) {
                return rank[what - 20];
            }
            switch (what) {
                case 0: return setup;
                case 1: return licences;
                case 2: return late;
                case 3: return forfeit;
                case 4: return fire[0];
                case 5: return fire[1];
                default: return BAD;
            }
        }
    }

    /** The bytes of a text, and the token of it that is looked at. */
    private static final class Tape {
        static final int MOST_BYTES = 400, MOST_FIGURES = 4;
        static final int END = 0, NAME = 1, NUMBER = 2, SEMICOLON = 3, NO_TOKEN = 4;

        private final int[] bytes = new int[MOST_BYTES];
        private int length = 0;
        private int token = END;
        private int begin = 0;
        private int end = 0;

        boolean hasRoomFor(int n) {
            return n <= MOST_BYTES - length;
        }

        void append(long w, int n) {
            for (int i = n - 1; i >= 0 && length < MOST_BYTES; i--) {
                bytes[length] = (int) (w >>> (8 * i)) & 255;
                length++;
            }
        }

        void empty() {
            length = 0;
        }

        void rewind() {
            end = 0;
            advance();
        }

        void advance() {
            begin = end;
            while (begin < length && (bytes[begin] == ' ' || bytes[begin] == '\n')) {
                begin++;
            }
            end = endOfRun('a', 'z');
            if (end > begin) {
                token = NAME;
                return;
            }
            end = endOfRun('0', '9');
            if (end > begin) {
                token = end - begin <= MOST_FIGURES ? NUMBER : NO_TOKEN;
                return;
            }
            if (begin >= length) {
                token = END;
                return;
            }
            token = bytes[begin] == ';' ? SEMICOLON : NO_TOKEN;
            end = begin + 1;
        }

        private int endOfRun(int least, int greatest) {
            int i = begin;
            while (i < length && bytes[i] >= least && bytes[i] <= greatest) {
                i++;
            }
            return i;
        }

        boolean isWord(String word) {
            if (token != NAME || end - begin != word.length()) {
                return false;
            }
            for (int i = 0; i < word.length(); i++) {
                if (bytes[begin + i] != word.charAt(i)) {
                    return false;
                }
            }
            return true;
        }

        int value() {
            int v = 0;
            for (int i = begin; i < end; i++) {
                v = v * 10 + bytes[i] - '0';
            }
            return v;
        }
    }

    /** Does rules on drafts of the halls as it reads, so that a fault can leave the halls as they are. */
    private static final class RuleReader {
        static final int CANNOT_STAND = 1, NOT_AS_TOLD = 2, STANDS_ALREADY = 3;
        static final int SETUP = 0, LICENCES = 1, RATE = 2, FIRST = 3, LATE = 4, FIRE = 5;

        private final Tape tape;
        private final Hall[] halls;
        private final Hall[] drafts = newHalls();
        private Hall draft = drafts[0];
        private int number = 0;
        private int done = 0;
        private int faultNumber = 0;
        private int faultPlace = 0;

        RuleReader(Tape tape, Hall[] halls) {
            this.tape = tape;
            this.halls = halls;
        }

        boolean readTape() {
            for (int h = 0; h < HALLS; h++) {
                drafts[h].takeOver(halls[h]);
            }
            done = 0;
            tape.rewind();
            boolean good = true;
            for (int i = 0; i < Tape.MOST_BYTES && good && tape.token != Tape.END; i++) {
                good = readHall();
            }
            for (int h = 0; h < HALLS && good; h++) {
                halls[h].takeOver(drafts[h]);
            }
            tape.empty();
            return good;
        }

        private boolean readHall() {
            if (!tape.isWord("hall")) {
                return refuse(CANNOT_STAND);
            }
            tape.advance();
            if (!readNumber(HALLS - 1)) {
                return false;
            }
            draft = drafts[number];
            boolean good = readRule();
            for (int i = 0; i < Tape.MOST_BYTES && good && tape.token != Tape.SEMICOLON; i++) {
                good = readRule();
            }
            if (good) {
                tape.advance();
            }
            return good;
        }

        private boolean readRule() {
            int rule = ruleHere();
            if (rule == NONE) {
                return refuse(CANNOT_STAND);
            }
            tape.advance();
            done++;
            switch (rule) {
                case SETUP: return readSetup();
                case LICENCES: return readLicences();
                case RATE: return readRate();
                case FIRST: return readFirst();
                case LATE: return readLate();
                default: return readFire();
            }
        }

        private boolean readSetup() {
            if (!readNumber(Hall.MOST_SETUP)) {
                return false;
            }
            draft.setup = number;
            return true;
        }

        private boolean readLicences() {
            if (!readNumber(Hall.MOST_LICENCES)) {
                return false;
            }
            draft.licences = number;
            return true;
        }

        private boolean readRate() {
            int use = useHere();
            if (use == NONE) {
                return refuse(CANNOT_STAND);
            }
            tape.advance();
            if (!readNumber(Hall.MOST_RATE)) {
                return false;
            }
            draft.rate[use] = number;
            return true;
        }

        // The uses that this 'first' has had hold the ranks below r: one of them that comes again shows by its rank.
        private boolean readFirst() {
            int use = useHere();
            if (use == NONE) {
                return refuse(CANNOT_STAND);
            }
            for (int r = 0; r <= USES && use != NONE; r++) {
                if (draft.rank[use] < r) {
                    return refuse(STANDS_ALREADY);
                }
                draft.raise(use, r);
                tape.advance();
                use = useHere();
            }
            return true;
        }

        private boolean readLate() {
            if (!readNumber(Hall.MOST_LATE)) {
                return false;
            }
            draft.late = number;
            if (!readNumber(Hall.MOST_FORFEIT)) {
                return false;
            }
            draft.forfeit = number;
            return true;
        }

        private boolean readFire() {
            if (!readNumber(FLOORS - 1)) {
                return false;
            }
            int floor = number;
            if (!readNumber(Hall.MOST_FIRE)) {
                return false;
            }
            draft.fire[floor] = number;
            return true;
        }

        private boolean readNumber(int greatest) {
            if (tape.token != Tape.NUMBER) {
                return refuse(CANNOT_STAND);
            }
            number = tape.value();
            if (number > greatest) {
                return refuse(NOT_AS_TOLD);
            }
            tape.advance();
            return true;
        }

        private int ruleHere() {
            if (tape.isWord("setup")) {
                return SETUP;
            }
            if (tape.isWord("licences")) {
                return LICENCES;
            }
            if (tape.isWord("rate")) {
                return RATE;
            }
            if (tape.isWord("first")) {
                return FIRST;
            }
            if (tape.isWord("late")) {
                return LATE;
            }
            return tape.isWord("fire") ? FIRE : NONE;
        }

        private int useHere() {
            if (tape.isWord("regular")) {
                return 0;
            }
            if (tape.isWord("party")) {
                return 1;
            }
            if (tape.isWord("club")) {
                return 2;
            }
            if (tape.isWord("funeral")) {
                return FUNERAL_USE;
            }
            return tape.isWord("school") ? 4 : NONE;
        }

        private boolean refuse(int fault) {
            faultNumber = fault;
            faultPlace = tape.begin;
            return false;
        }
    }

    private static final class Booking {
        static final int ITEMS = 9, MOST_PEOPLE = 999;

        int hall = 0;
        int floor = 0;
        int day = 0;
        int from = 0;
        int to = 0;
        int people = 0;
        int use = 0;
        int licence = 0;
        int came = 0;
        int cancelled = NONE;

        void fill(Sheets sheets, int s, int i) {
            hall = sheets.item(s, i);
            floor = sheets.item(s, i + 1);
            day = sheets.item(s, i + 2);
            from = sheets.item(s, i + 3);
            to = sheets.item(s, i + 4);
            people = sheets.item(s, i + 5);
            use = sheets.item(s, i + 6);
            licence = sheets.item(s, i + 7);
            came = sheets.item(s, i + 8);
        }

        boolean isAsTold() {
            boolean where = isHall(hall) && within(floor, 0, FLOORS - 1);
            boolean when = isDay(day) && isSpan(from, to) && within(came, 0, day);
            boolean who = within(people, 1, MOST_PEOPLE) && within(use, 0, USES - 1) && within(licence, 0, 1);
            return where && when && who;
        }

        boolean isCancelledBy(int known) {
            return cancelled != NONE && cancelled <= known;
        }

        boolean isThereOn(int known) {
            return came <= known && !isCancelledBy(known);
        }

        boolean isOn(int aHall, int aFloor, int aDay) {
            return hall == aHall && floor == aFloor && day == aDay;
        }

        // Their places are not looked at: a funeral moves bookings to places that they do not tell.
        boolean isTooNear(Booking other, int setup) {
            int gap = use == other.use ? 0 : setup;
            return from < other.to + gap && other.from < to + gap;
        }

        int tell(int what) {
            switch (what) {
                case 0: return hall;
                case 1: return floor;
                case 2: return day;
                case 3: return from;
                case 4: return to;
                case 5: return people;
                case 6: return use;
                case 7: return licence;
                case 8: return came;
                case 9: return cancelled;
                default: return BAD;
            }
        }
    }

    /** The bookings, and what the halls' rules make of them; sets of bookings are bits. */
    private static final class Diary {
        static final int MOST = 16;

        private final Hall[] halls;
        private final Booking[] bookings = new Booking[MOST];
        private final int[] line = new int[MOST];
        private final int[] keys = new int[MOST];
        private final long[] worths = new long[MOST];
        private int size = 0;

        Diary(Hall[] halls) {
            this.halls = halls;
            for (int k = 0; k < MOST; k++) {
                bookings[k] = new Booking();
            }
        }

        boolean isFull() {
            return size >= MOST;
        }

        boolean has(int k) {
            return k >= 0 && k < size;
        }

        Booking get(int k) {
            return bookings[k];
        }

        int add(Sheets sheets, int s, int i) {
            bookings[size].fill(sheets, s, i);
            if (!bookings[size].isAsTold()) {
                return NONE;
            }
            size++;
            return size - 1;
        }

        int priceOf(Booking b) {
            Hall hall = halls[b.hall];
            int full = (b.to - b.from) * hall.rate[b.use];
            if (b.cancelled == NONE) {
                return full;
            }
            return b.day - b.cancelled < hall.late ? full * hall.forfeit / 100 : 0;
        }

        int pricesOf(int set) {
            int sum = 0;
            for (int k = 0; k < size; k++) {
                if ((set >> k & 1) == 1) {
                    sum += priceOf(bookings[k]);
                }
            }
            return sum;
        }

        boolean areClashing(Booking a, Booking b) {
            return b.isOn(a.hall, a.floor, a.day) && a.isTooNear(b, halls[a.hall].setup);
        }

        int clashingWith(Booking b, int set) {
            int found = 0;
            for (int k = 0; k < size; k++) {
                if ((set >> k & 1) == 1 && areClashing(b, bookings[k])) {
                    found |= 1 << k;
                }
            }
            return found;
        }

        boolean isFireEnough(Booking b) {
            return b.people <= halls[b.hall].fire[b.floor];
        }

        int thereOn(int known) {
            int set = 0;
            for (int k = 0; k < size; k++) {
                if (bookings[k].isThereOn(known)) {
                    set |= 1 << k;
                }
            }
            return set;
        }

        int heldOn(int known) {
            int there = thereOn(known);
            for (int k = 0; k < size; k++) {
                Booking b = bookings[k];
                keys[k] = halls[b.hall].rank[b.use] * (LAST_DAY + 1) + b.came;
            }
            int n = lineUp(there);
            int held = 0;
            for (int i = 0; i < n; i++) {
                if (canHold(bookings[line[i]], held)) {
                    held |= 1 << line[i];
                }
            }
            return held;
        }

        private boolean canHold(Booking b, int held) {
            if (!isFireEnough(b) || clashingWith(b, held) != 0) {
                return false;
            }
            return b.licence == 0 || licencesIn(b.hall, held) < halls[b.hall].licences;
        }

        private int licencesIn(int hall, int held) {
            int n = 0;
            for (int k = 0; k < size; k++) {
                if ((held >> k & 1) == 1 && bookings[k].hall == hall) {
                    n += bookings[k].licence;
                }
            }
            return n;
        }

        // Of equal keys the one with the smaller number stays ahead.
        private int lineUp(int set) {
            int n = 0;
            for (int k = 0; k < size; k++) {
                if ((set >> k & 1) == 0) {
                    continue;
                }
                int i = n;
                while (i > 0 && keys[line[i - 1]] > keys[k]) {
                    line[i] = line[i - 1];
                    i--;
                }
                line[i] = k;
                n++;
            }
            return n;
        }

        int kindOf(int k, int known, int held) {
            Booking b = bookings[k];
            if (b.isCancelledBy(known)) {
                return GONE;
            }
            if ((held >> k & 1) == 1) {
                return halls[b.hall].rank[b.use] == 0 ? FIRM : HELD;
            }
            return b.isThereOn(known) ? OUT : BOOKING;
        }

        /*
         * By beginnings, a booking that does not clash with the one ahead of it in a set clashes with none of those
         * further ahead, since setups are alike: so it is enough to know the best set that ends with each. A booking's
         * worth is its price above all, then less its bit, so that of several sets the least number is the worthiest.
         */
        int worthiest(int hall, int floor, int day, int known) {
            int n = lineUpByBeginnings(hall, floor, day, known);
            long best = 0;
            for (int i = 0; i < n; i++) {
                Booking b = bookings[line[i]];
                long ahead = 0;
                for (int j = 0; j < i; j++) {
                    if (worths[j] > ahead && !areClashing(bookings[line[j]], b)) {
                        ahead = worths[j];
                    }
                }
                worths[i] = ahead + ((long) priceOf(b) << MOST) - (1L << line[i]);
                best = Math.max(best, worths[i]);
            }
            return (int) (-best & ((1L << MOST) - 1));
        }

        private int lineUpByBeginnings(int hall, int floor, int day, int known) {
            int set = 0;
            for (int k = 0; k < size; k++) {
                Booking b = bookings[k];
                keys[k] = b.from;
                if (b.isOn(hall, floor, day) && b.isThereOn(known) && isFireEnough(b)) {
                    set |= 1 << k;
                }
            }
            return lineUp(set);
        }
    }

    private static final class FuneralPlan {
        private final Diary diary;
        private final Hall[] halls;
        private final Booking service = new Booking();
        private final Booking guest = new Booking();
        private final int[] goesTo = new int[Diary.MOST];
        private int held = 0;
        private int moved = 0;

        FuneralPlan(Diary diary, Hall[] halls) {
            this.diary = diary;
            this.halls = halls;
        }

        void make(int hall, int day, int from, int to, int people, int known) {
            service.hall = hall;
            service.day = day;
            service.from = from;
            service.to = to;
            service.people = people;
            service.use = FUNERAL_USE;
            held = diary.heldOn(known);
            chooseFloor();
            for (int k = 0; k < Diary.MOST; k++) {
                goesTo[k] = NONE;
            }
            for (int k = 0; k < Diary.MOST; k++) {
                if ((moved >> k & 1) == 1) {
                    goesTo[k] = placeFor(k);
                }
            }
        }

        private void chooseFloor() {
            int chosen = NONE;
            moved = 0;
            for (int f = 0; f < FLOORS; f++) {
                service.floor = f;
                int clashing = diary.clashingWith(service, held);
                boolean fewer = chosen == NONE || Integer.bitCount(clashing) < Integer.bitCount(moved);
                if (fewer && diary.isFireEnough(service)) {
                    chosen = f;
                    moved = clashing;
                }
            }
            service.floor = chosen;
        }

        private int placeFor(int k) {
            Booking b = diary.get(k);
            guest.day = b.day;
            guest.from = b.from;
            guest.to = b.to;
            guest.people = b.people;
            guest.use = b.use;
            for (int step = 0; step < HALLS * FLOORS; step++) {
                guest.hall = (b.hall + step / FLOORS) % HALLS;
                guest.floor = step % FLOORS;
                if (isFreeForGuest()) {
                    return FLOORS * guest.hall + guest.floor;
                }
            }
            return NONE;
        }

        private boolean isFreeForGuest() {
            if (!diary.isFireEnough(guest) || diary.areClashing(guest, service)) {
                return false;
            }
            if (diary.clashingWith(guest, held & ~moved) != 0) {
                return false;
            }
            for (int k = 0; k < Diary.MOST; k++) {
                boolean there = goesTo[k] == FLOORS * guest.hall + guest.floor;
                if (there && guest.isTooNear(diary.get(k), halls[guest.hall].setup)) {
                    return false;
                }
            }
            return true;
        }

        int tell(int what) {
            switch (what) {
                case 0: return service.floor;
                case 1: return Integer.bitCount(moved);
                case 2: return withoutPlace();
                default: return within(what, 3, Diary.MOST + 2) ? goesTo[what - 3] : BAD;
            }
        }

        private int withoutPlace() {
            int n = 0;
            for (int k = 0; k < Diary.MOST; k++) {
                if ((moved >> k & 1) == 1 && goesTo[k] == NONE) {
                    n++;
                }
            }
            return n;
        }
    }

    /** What happened to things (halls, keys), in order of time, of one time as it was told. */
    private static final class Log {
        static final int MOST = 40;

        private final int[] time = new int[MOST];
        private final int[] thing = new int[MOST];
        private final int[] first = new int[MOST];
        private final int[] second = new int[MOST];
        private int size = 0;

        int add(int when, int what, int a, int b) {
            if (size >= MOST) {
                return FULL;
            }
            int i = size;
            while (i > 0 && time[i - 1] > when) {
                time[i] = time[i - 1];
                thing[i] = thing[i - 1];
                first[i] = first[i - 1];
                second[i] = second[i - 1];
                i--;
            }
            time[i] = when;
            thing[i] = what;
            first[i] = a;
            second[i] = b;
            size++;
            return size;
        }
    }

    private static final class Meetings {
        static final int MOST = 10;

        private final boolean[] valid = new boolean[MOST];
        private final boolean[] carried = new boolean[MOST];
        private final int[] hangsOn = new int[MOST];
        private int size = 0;

        boolean has(int m) {
            return m >= 0 && m < size;
        }

        boolean isFull() {
            return size >= MOST;
        }

        // What a meeting hangs on is told ahead of it and never changes: so it is known now whether it is valid.
        int add(int yes, int no, int quorum, int hangs) {
            boolean stands = !has(hangs) || carried[hangs];
            valid[size] = yes + no >= quorum && stands;
            carried[size] = valid[size] && yes > no;
            hangsOn[size] = hangs;
            size++;
            return size - 1;
        }

        int hangingOn(int m) {
            int behind = 1 << m;
            for (int k = m + 1; k < size; k++) {
                if (has(hangsOn[k]) && (behind >> hangsOn[k] & 1) == 1) {
                    behind |= 1 << k;
                }
            }
            return Integer.bitCount(behind) - 1;
        }
    }

    /**
     * One ask at a time; its bodies bear their numbers, by which they are traced. Where a body asks SIZE or MARK anew,
     * the KIND that it is told for says which body that is: so it is called at once, and nothing calls itself.
     */
    private static final class Asks {
        static final int MOST = 16;

        private final int[] begun = new int[MOST];
        private int size = 0;
        private int people = 0;
        private int use = 0;
        private int day = 0;
        private int price = 0;

        void about(Booking b, int priceOfIt) {
            size = 0;
            people = b.people;
            use = b.use;
            day = b.day;
            price = priceOfIt;
        }

        int traced(int i) {
            return i >= 0 && i < size ? begun[i] : NONE;
        }

        private void begin(int body) {
            if (size < MOST) {
                begun[size] = body;
                size++;
            }
        }

        int sizeAs(int aKind) {
            switch (aKind) {
                case HELD: return body11();
                case FIRM: return body12();
                case GONE: return body13();
                default: return body10();
            }
        }

        int markAs(int aKind) {
            switch (aKind) {
                case HELD: return body21();
                case FIRM: return body22();
                case OUT: return body23();
                default: return body20();
            }
        }

        private int body10() {
            begin(10);
            return people;
        }

        private int body11() {
            begin(11);
            return body10() + price;
        }

        private int body12() {
            begin(12);
            return body11() * 2;
        }

        private int body13() {
            begin(13);
            return body10() - body20();
        }

        private int body20() {
            begin(20);
            return use;
        }

        private int body21() {
            begin(21);
            return body20() + day;
        }

        private int body22() {
            begin(22);
            return body21() + body12();
        }

        private int body23() {
            begin(23);
            return body20() + body10();
        }
    }
}
