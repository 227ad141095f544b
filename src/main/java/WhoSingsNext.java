import java.util.Arrays;

/** Who sings next: slips in a box, people who wait, and a desk that puts the slips in an order by rules. */
public final class WhoSingsNext {
    public static final int NONE = -1, BAD = -2, STATE = -3, FULL = -4;
    public static final long NO = -4611686018427387904L;

    private static final int NO_SUCH = -100000;
    private static final int NOTHING = -11, OUTSIDE = -12, OTHER_SORT = -13, BELOW_NOTHING = -14;

    private static final int MOST_PEOPLE = 8, MOST_GROUPS = 8, MOST_SLIPS = 7, MOST_TEXTS = 6, MOST_BYTES = 160;
    private static final int MOST_SHEETS = 4, MOST_ITEMS = 40, MISSING = -1, BYTES = 0, SHORTS = 1, INTS = 2;

    private static final int SONG = 0, SLOW = 1, ALONG = 2, ROAD = 3, DARING = 4, BOUGHT = 5;

    private static final int PATIENCE = 0, GROUP = 1, NUMBER_OF = 2, LONG = 3, WHOSE = 4, MOOD_NOW = 5, TILL = 6;

    private static final int TAKEN = 0, LEFT = 1, SUNG = 2, MOOD_THEN = 3, MINUTE_THEN = 4, THERE = 5, ROW = 6;

    private static final String FIRST_RULE = "bears 10 ; takes 2 + mood ; first waited - sung * 9 ;";

    private final House house = new House();
    private final House kept = new House();
    private boolean isKept;
    private final Reader reader = new Reader();
    private final Text[] texts = new Text[MOST_TEXTS];
    private int textCount;
    private final Evening tonight = new Evening(house);
    private final Search search = new Search(house);
    private final Sheet[] sheets = new Sheet[MOST_SHEETS];

    public WhoSingsNext() {
        for (int i = 0; i < FIRST_RULE.length(); i++) {
            reader.add(FIRST_RULE.charAt(i));
        }
        reader.readTape();
        Text first = reader.made();
        // Every place holds a text, so that none is ever null.
        for (int i = 0; i < MOST_TEXTS; i++) {
            texts[i] = first;
        }
        textCount = 1;
        for (int i = 0; i < MOST_SHEETS; i++) {
            sheets[i] = new Sheet();
        }
    }

    // ---- people, slips

    public int come(int patience, int group) {
        if (!house.allows(PATIENCE, patience) || !house.allows(GROUP, group)) {
            return BAD;
        }
        return house.addPerson(patience, group);
    }

    public int slip(int kind, int what, int whose) {
        return house.addSlip(kind, what, whose);
    }

    public int set(int what, int of, int v) {
        if (!house.hasValue(what, of) || !house.allows(what, v)) {
            return NO_SUCH;
        }
        int was = house.valueOf(what, of);
        house.change(what, of, v);
        return was;
    }

    public int told(int of, int what) {
        if (what == 5) {
            return house.hasSlip(of) ? house.slips[of].kind : BAD;
        }
        if (what > WHOSE || !house.hasValue(what, of)) {
            return BAD;
        }
        return house.valueOf(what, of);
    }

    // ---- texts

    public int feed(int letter) {
        if (letter < 0 || letter > 255) {
            return BAD;
        }
        return reader.add(letter) ? reader.bytes : FULL;
    }

    public int text() {
        if (textCount >= MOST_TEXTS) {
            return FULL;
        }
        if (!reader.readTape()) {
            return -100 - reader.fault;
        }
        texts[textCount] = reader.made();
        textCount++;
        return textCount - 1;
    }

    public int force(int text) {
        if (text < 0 || text >= textCount) {
            return BAD;
        }
        int was = house.rule;
        house.follow(text);
        return was;
    }

    // ---- evenings

    public int evening(int row, int what) {
        if (!house.isRow(row) || what < TAKEN || what > THERE) {
            return NO_SUCH;
        }
        tonight.begin(rule());
        tonight.callRow(row);
        return tonight.answer(what);
    }

    public int best(int sort, int what) {
        if (sort < 0 || sort >= Search.SORTS || what < 0 || what >= Search.ANSWERS) {
            return BAD;
        }
        search.look(rule());
        return search.answer(sort, what);
    }

    public int desk(int what) {
        if (what < TAKEN || what > ROW) {
            return NO_SUCH;
        }
        runDesk(rule(), NONE);
        return tonight.answer(what);
    }

    public int hold(int row) {
        if (!house.isRow(row)) {
            return NO_SUCH;
        }
        tonight.begin(rule());
        tonight.callRow(row);
        house.change(MOOD_NOW, 0, tonight.mood);
        return tonight.bar;
    }

    public int wait(int slip) {
        if (!house.hasSlip(slip)) {
            return BAD;
        }
        runDesk(rule(), NONE);
        return tonight.begins[slip];
    }

    public int refuse(int what) {
        if (what != 0 && what != 1) {
            return BAD;
        }
        runDesk(rule(), NONE);
        int most = tonight.bar;
        int refused = NONE;
        for (int s = 0; s < house.slipCount; s++) {
            runDesk(rule(), s);
            if (tonight.bar > most) {
                most = tonight.bar;
                refused = s;
            }
        }
        return what == 0 ? refused : most;
    }

    public int coin(int slip) {
        if (!house.hasSlip(slip)) {
            return NO_SUCH;
        }
        runDesk(rule(), NONE);
        int byDesk = tonight.bar;
        tonight.begin(rule());
        tonight.callSlip(slip);
        tonight.callByDesk();
        return byDesk - tonight.bar;
    }

    public int harm(int slip) {
        if (!house.hasSlip(slip)) {
            return NO_SUCH;
        }
        runDesk(rule(), NONE);
        int byDesk = tonight.left;
        runDesk(rule(), slip);
        return byDesk - tonight.left;
    }

    public int judge(int sheet) {
        if (!isSheet(sheet)) {
            return BAD;
        }
        if (sheets[sheet].sort == MISSING) {
            return NOTHING;
        }
        return judged(sheets[sheet], rule());
    }

    public int which(int sheet) {
        if (!isSheet(sheet)) {
            return BAD;
        }
        if (sheets[sheet].sort == MISSING) {
            return NOTHING;
        }
        int bits = 0;
        for (int t = 0; t < textCount; t++) {
            if (judged(sheets[sheet], texts[t]) == NONE) {
                bits |= 1 << t;
            }
        }
        return bits;
    }

    public int behind() {
        runDesk(rule(), NONE);
        int waiting = 0;
        int served = 0;
        for (int s = 0; s < house.slipCount; s++) {
            int bit = 1 << house.slips[s].whose;
            waiting |= bit;
            if (tonight.begins[s] != NONE) {
                served |= bit;
            }
        }
        return waiting & ~served;
    }

    public int drawn(int seed) {
        tonight.begin(rule());
        tonight.callByChance(seed);
        return tonight.bar;
    }

    public long chance(int seed, int n, int part) {
        if (n < 1 || n > 20 || part < 0 || part > 1) {
            return NO;
        }
        int above = 0;
        for (int i = 0; i < n; i++) {
            tonight.begin(rule());
            tonight.callByChance(seed + i);
            if (tonight.left == 0) {
                above++;
            }
        }
        int divisor = commonDivisor(above, n);
        return part == 0 ? above / divisor : n / divisor;
    }

    public int image() {
        kept.become(house);
        isKept = true;
        return kept.slipCount;
    }

    public int back() {
        if (!isKept) {
            return STATE;
        }
        house.become(kept);
        return house.slipCount;
    }

    public int count(int what) {
        switch (what) {
            case 0: return house.peopleCount;
            case 1: return house.slipCount;
            case 2: return house.mood + 99;
            case 3: return house.till;
            case 4: return textCount;
            case 5: return reader.bytes;
            case 6: return house.rule;
            default: return BAD;
        }
    }

    // ---- the host

    public int sheet(int sheet, int sort, int n) {
        if (!isSheet(sheet) || sort < MISSING || sort > INTS) {
            return BAD;
        }
        if (sort == MISSING) {
            sheets[sheet].remake(MISSING, 0);
            return 1;
        }
        if (n > MOST_ITEMS) {
            return BAD;
        }
        if (n < 0) {
            return BELOW_NOTHING;
        }
        sheets[sheet].remake(sort, n);
        return 1;
    }

    public int cell(int sheet, int i, int v) {
        if (!isSheet(sheet)) {
            return BAD;
        }
        Sheet row = sheets[sheet];
        if (row.sort == MISSING) {
            return NOTHING;
        }
        if (!row.holds(i, 1)) {
            return OUTSIDE;
        }
        row.put(i, v);
        return 1;
    }

    public int copy(int sheet, int i, int other, int j, int n) {
        if (!isSheet(sheet) || !isSheet(other)) {
            return BAD;
        }
        Sheet from = sheets[sheet];
        Sheet to = sheets[other];
        if (from.sort == MISSING || to.sort == MISSING) {
            return NOTHING;
        }
        if (from.sort != to.sort) {
            return OTHER_SORT;
        }
        if (!from.holds(i, n) || !to.holds(j, n)) {
            return OUTSIDE;
        }
        System.arraycopy(from.items, i, to.items, j, n);
        return n;
    }

    public int slips(int sheet, int sort, int from, int n) {
        if (!isSheet(sheet) || sort < BYTES || sort > INTS || n < 0 || n > MOST_SLIPS) {
            return BAD;
        }
        Sheet row = sheets[sheet];
        // A missing sheet may be taken for one of any sort: only its use is refused.
        if (row.sort != MISSING && row.sort != sort) {
            return OTHER_SORT;
        }
        if (row.sort == MISSING) {
            return NOTHING;
        }
        int came = 0;
        for (int k = 0; k < n; k++) {
            int at = from + 3 * k;
            if (!row.holds(at, 3)) {
                return OUTSIDE;
            }
            if (house.addSlip(row.items[at], row.items[at + 1], row.items[at + 2]) >= 0) {
                came++;
            }
        }
        return came;
    }

    public int taken(int slip, int k) {
        if (k < SONG || k > BOUGHT) {
            return BAD;
        }
        if (!house.hasSlip(slip)) {
            return NOTHING;
        }
        return house.slips[slip].isOf(k) ? house.slips[slip].number : OTHER_SORT;
    }

    private Text rule() {
        return texts[house.rule];
    }

    private static boolean isSheet(int sheet) {
        return sheet >= 0 && sheet < MOST_SHEETS;
    }

    /** THE DESK, tonight; a slip that is left out is as if it weren't there. */
    private void runDesk(Text rule, int without) {
        tonight.begin(rule);
        tonight.leaveOut(without);
        tonight.callByDesk();
    }

    private int judged(Sheet told, Text rule) {
        runDesk(rule, NONE);
        for (int i = 0; i < told.size; i++) {
            if (i >= tonight.calls || told.items[i] != tonight.row[i]) {
                return i;
            }
        }
        return NONE;
    }

    /** Never 0, also if one of the two is. */
    private static int commonDivisor(int above, int below) {
        for (int d = below; d > 1; d--) {
            if (above % d == 0 && below % d == 0) {
                return d;
            }
        }
        return 1;
    }

    private static int within(int value, int least, int most) {
        return Math.max(least, Math.min(most, value));
    }

    private static final class Person {
        private int patience;
        private int group;

        void become(Person other) {
            patience = other.patience;
            group = other.group;
        }
    }

    private static final class Slip {
        private int kind;
        private int number;
        private int minutes;
        private int whose;

        void become(Slip other) {
            kind = other.kind;
            number = other.number;
            minutes = other.minutes;
            whose = other.whose;
        }

        /** By how much it moves the mood, which is m ahead of it. */
        int moves(int m) {
            switch (kind) {
                case SLOW: return 1 - number;
                case ALONG: return 1 + number;
                case ROAD: return m < 0 ? 0 : 1 - number;
                case DARING: return m < 0 ? 2 * (1 + number) : 1 + number;
                case BOUGHT: return (1 + number) / 2;
                default: return 1;
            }
        }

        /** How many drinks it brings while n are there. */
        int thirst(int n) {
            switch (kind) {
                case SLOW: return n / 2;
                case ROAD: return n / 2 + number;
                case DARING: return n + 1;
                case BOUGHT: return n + 3;
                default: return n;
            }
        }

        boolean isOf(int k) {
            switch (k) {
                case SONG: return true;
                case SLOW: return kind == SLOW || kind == ROAD;
                case ALONG: return kind == ALONG || kind == DARING || kind == BOUGHT;
                default: return kind == k;
            }
        }
    }

    /** All that an image keeps, so that an image is just another house. */
    private static final class House {
        private final Person[] people = new Person[MOST_PEOPLE];
        private final Slip[] slips = new Slip[MOST_SLIPS];
        private int peopleCount;
        private int slipCount;
        private int mood;
        private int till = 60;
        private int rule;
        /** Counts every change, so that a search knows whether what it found still holds. */
        private int changes;

        House() {
            for (int p = 0; p < MOST_PEOPLE; p++) {
                people[p] = new Person();
            }
            for (int s = 0; s < MOST_SLIPS; s++) {
                slips[s] = new Slip();
            }
        }

        boolean hasPerson(int p) {
            return p >= 0 && p < peopleCount;
        }

        boolean hasSlip(int s) {
            return s >= 0 && s < slipCount;
        }

        int groupOf(Slip slip) {
            return people[slip.whose].group;
        }

        int addPerson(int patience, int group) {
            if (peopleCount >= MOST_PEOPLE) {
                return FULL;
            }
            people[peopleCount].patience = patience;
            people[peopleCount].group = group;
            peopleCount++;
            changes++;
            return peopleCount - 1;
        }

        int addSlip(int kind, int what, int whose) {
            if (kind < SONG || kind > BOUGHT || what < 10 || what > 99 || !hasPerson(whose)) {
                return BAD;
            }
            if (slipCount >= MOST_SLIPS) {
                return FULL;
            }
            Slip slip = slips[slipCount];
            slip.kind = kind;
            slip.number = what % 10;
            slip.minutes = what / 10;
            slip.whose = whose;
            slipCount++;
            changes++;
            return slipCount - 1;
        }

        boolean hasValue(int what, int of) {
            switch (what) {
                case PATIENCE: case GROUP: return hasPerson(of);
                case NUMBER_OF: case LONG: case WHOSE: return hasSlip(of);
                case MOOD_NOW: case TILL: return true;
                default: return false;
            }
        }

        boolean allows(int what, int v) {
            switch (what) {
                case PATIENCE: return v >= 0 && v <= 99;
                case GROUP: return v >= 0 && v < MOST_GROUPS;
                case NUMBER_OF: return v >= 0 && v <= 9;
                case LONG: return v >= 1 && v <= 9;
                case WHOSE: return hasPerson(v);
                case MOOD_NOW: return v >= -99 && v <= 99;
                case TILL: return v >= 1 && v <= 99;
                default: return false;
            }
        }

        int valueOf(int what, int of) {
            if (!hasValue(what, of)) {
                return BAD;
            }
            switch (what) {
                case PATIENCE: return people[of].patience;
                case GROUP: return people[of].group;
                case NUMBER_OF: return slips[of].number;
                case LONG: return slips[of].minutes;
                case WHOSE: return slips[of].whose;
                case MOOD_NOW: return mood;
                default: return till;
            }
        }

        void change(int what, int of, int v) {
            if (!hasValue(what, of) || !allows(what, v)) {
                return;
            }
            switch (what) {
                case PATIENCE: people[of].patience = v; break;
                case GROUP: people[of].group = v; break;
                case NUMBER_OF: slips[of].number = v; break;
                case LONG: slips[of].minutes = v; break;
                case WHOSE: slips[of].whose = v; break;
                case MOOD_NOW: mood = v; break;
                default: till = v; break;
            }
            changes++;
        }

        void follow(int text) {
            rule = text;
            changes++;
        }

        void become(House other) {
            for (int p = 0; p < MOST_PEOPLE; p++) {
                people[p].become(other.people[p]);
            }
            for (int s = 0; s < MOST_SLIPS; s++) {
                slips[s].become(other.slips[s]);
            }
            peopleCount = other.peopleCount;
            slipCount = other.slipCount;
            mood = other.mood;
            till = other.till;
            rule = other.rule;
            changes++;
        }

        /** Whether digits tell a row: each 1 more than a slip, each once at most. */
        boolean isRow(int row) {
            if (row < 0) {
                return false;
            }
            int seen = 0;
            for (int rest = row; rest > 0; rest /= 10) {
                int s = rest % 10 - 1;
                if (!hasSlip(s) || (seen >> s & 1) == 1) {
                    return false;
                }
                seen |= 1 << s;
            }
            return true;
        }
    }

    private static final class Sheet {
        private final int[] items = new int[MOST_ITEMS];
        private int sort = MISSING;
        private int size;

        void remake(int newSort, int newSize) {
            sort = newSort;
            size = newSize;
            Arrays.fill(items, 0);
        }

        /** Told without i + n, which may be no int. */
        boolean holds(int i, int n) {
            return n >= 0 && n <= size && i >= 0 && i <= size - n;
        }

        void put(int i, int v) {
            items[i] = sort == BYTES ? (byte) v : sort == SHORTS ? (short) v : v;
        }
    }

    /** The tape, and how it is read: the code of an E has what is joined ahead of the sign that joins it. */
    private static final class Reader {
        private static final int END = 1, WRONG = 2, NUMBER = 3, NEGATE = 4;
        private static final int MINUTE = 101, WAITED = 102, SUNG_BY = 103, SORT = 104, BAR = 105, MOOD = 106;
        private static final int BEARS = 107, TAKES = 108, FIRST = 109, OR = 110, AND = 111, NOT = 112;
        private static final String SIGNS = "();+-*<=";

        private static final int OR_LEVEL = 0, AND_LEVEL = 1, NOT_LEVEL = 2, SUM_LEVEL = 3, TERM_LEVEL = 4;
        private static final int MOST_OPEN = 5, MOST_DIGITS = 4;

        private final int[] tape = new int[MOST_BYTES];
        private int bytes;
        private final int[] code = new int[MOST_BYTES];
        private int codes;
        private int takesAt;
        private int firstAt;
        private int token;
        private int number;
        private int place;
        private int next;
        private int fault;

        boolean add(int letter) {
            if (bytes >= MOST_BYTES) {
                return false;
            }
            tape[bytes] = letter;
            bytes++;
            return true;
        }

        /** Whether the tape is a text; it is empty then in either case. */
        boolean readTape() {
            codes = 0;
            next = 0;
            fault = NONE;
            readToken();
            pass(BEARS);
            readLevel(OR_LEVEL, 0);
            pass(';');
            takesAt = codes;
            pass(TAKES);
            readLevel(OR_LEVEL, 0);
            pass(';');
            firstAt = codes;
            pass(FIRST);
            readLevel(OR_LEVEL, 0);
            pass(';');
            if (token != END) {
                fail();
            }
            bytes = 0;
            return fault == NONE;
        }

        Text made() {
            return new Text(Arrays.copyOf(code, codes), takesAt, firstAt);
        }

        private void pass(int wanted) {
            if (token == wanted) {
                readToken();
            } else {
                fail();
            }
        }

        /** A wrong token stands nowhere, so all that is open ends at it, and the first fault stays. */
        private void fail() {
            if (fault == NONE) {
                fault = place;
            }
            token = WRONG;
        }

        private void readLevel(int level, int open) {
            if (level > TERM_LEVEL) {
                readOne(open);
                return;
            }
            if (level == NOT_LEVEL && token == NOT) {
                readNot(open);
                return;
            }
            readLevel(level + 1, open);
            // A NOT has one < or = at most; of all others there may be as many as the tape has room for.
            int most = level == NOT_LEVEL ? 1 : MOST_BYTES;
            for (int i = 0; i < most && joins(level); i++) {
                int sign = token;
                readToken();
                readLevel(level + 1, open);
                emit(-sign);
            }
        }

        private boolean joins(int level) {
            switch (level) {
                case OR_LEVEL: return token == OR;
                case AND_LEVEL: return token == AND;
                case NOT_LEVEL: return token == '<' || token == '=';
                case SUM_LEVEL: return token == '+' || token == '-';
                default: return token == '*';
            }
        }

        private void readNot(int open) {
            if (open >= MOST_OPEN) {
                fail();
                return;
            }
            readToken();
            readLevel(NOT_LEVEL, open + 1);
            emit(-NOT);
        }

        private void readOne(int open) {
            if (token == NUMBER) {
                emit(number);
                readToken();
            } else if (isName(token)) {
                emit(-token);
                readToken();
            } else if (token == '-' && open < MOST_OPEN) {
                readToken();
                readOne(open + 1);
                emit(-NEGATE);
            } else if (token == '(' && open < MOST_OPEN) {
                readToken();
                readLevel(OR_LEVEL, open + 1);
                // Not by pass(..), so that calls stay eight deep.
                if (token != ')') {
                    fail();
                    return;
                }
                readToken();
            } else {
                fail();
            }
        }

        private static boolean isName(int token) {
            return token >= MINUTE && token <= MOOD;
        }

        /** Numbers are as they are; all else is below 0. */
        private void emit(int item) {
            if (codes < MOST_BYTES) {
                code[codes] = item;
                codes++;
            }
        }

        private void readToken() {
            place = next;
            while (place < bytes && (tape[place] == 32 || tape[place] == 10)) {
                place++;
            }
            next = place;
            if (place >= bytes) {
                token = END;
            } else if (isLetter(tape[place])) {
                readWord();
            } else if (isDigit(tape[place])) {
                readNumber();
            } else {
                token = SIGNS.indexOf((char) tape[place]) >= 0 ? tape[place] : WRONG;
                next = place + 1;
            }
        }

        private static boolean isLetter(int letter) {
            return letter >= 'a' && letter <= 'z';
        }

        private static boolean isDigit(int letter) {
            return letter >= '0' && letter <= '9';
        }

        private void readNumber() {
            number = 0;
            while (next < bytes && isDigit(tape[next])) {
                number = number * 10 + tape[next] - '0';
                next++;
            }
            token = next - place > MOST_DIGITS ? WRONG : NUMBER;
        }

        private void readWord() {
            while (next < bytes && isLetter(tape[next])) {
                next++;
            }
            token = spells("minute") ? MINUTE
                : spells("waited") ? WAITED
                : spells("sung") ? SUNG_BY
                : spells("sort") ? SORT
                : spells("bar") ? BAR
                : spells("mood") ? MOOD
                : spells("bears") ? BEARS
                : spells("takes") ? TAKES
                : spells("first") ? FIRST
                : spells("or") ? OR
                : spells("and") ? AND
                : spells("not") ? NOT
                : WRONG;
        }

        private boolean spells(String word) {
            if (word.length() != next - place) {
                return false;
            }
            for (int i = 0; i < word.length(); i++) {
                if (tape[place + i] != word.charAt(i)) {
                    return false;
                }
            }
            return true;
        }
    }

    /** What a tape said, with its three parts one behind the other. */
    private static final class Text {
        private static final int BEARS_PART = 0, TAKES_PART = 1, FIRST_PART = 2;
        /** Six places in which five signs of different levels can wait for what they join, and one beside. */
        private static final int MOST_PENDING = 31;

        private final int[] code;
        private final int takesAt;
        private final int firstAt;
        private final int[] pending = new int[MOST_PENDING];

        Text(int[] code, int takesAt, int firstAt) {
            this.code = code;
            this.takesAt = takesAt;
            this.firstAt = firstAt;
        }

        /** The names are minute, waited, sung, sort, bar, mood. */
        int worth(int part, int[] names) {
            int from = part == BEARS_PART ? 0 : part == TAKES_PART ? takesAt : firstAt;
            int to = part == BEARS_PART ? takesAt : part == TAKES_PART ? firstAt : code.length;
            int top = 0;
            for (int i = from; i < to; i++) {
                int item = code[i];
                int name = -item - Reader.MINUTE;
                if (item >= 0 || name >= 0 && name < names.length) {
                    if (top >= MOST_PENDING) {
                        return 0;
                    }
                    pending[top] = item >= 0 ? item : names[name];
                    top++;
                } else if (top > 0 && item == -Reader.NEGATE) {
                    pending[top - 1] = -pending[top - 1];
                } else if (top > 0 && item == -Reader.NOT) {
                    pending[top - 1] = pending[top - 1] == 0 ? 1 : 0;
                } else if (top > 1) {
                    top--;
                    pending[top - 1] = joined(-item, pending[top - 1], pending[top]);
                }
            }
            return pending[0];
        }

        private static int joined(int sign, int a, int b) {
            switch (sign) {
                case '+': return a + b;
                case '-': return a - b;
                case '*': return a * b;
                case '<': return a < b ? 1 : 0;
                case '=': return a == b ? 1 : 0;
                case Reader.AND: return a != 0 && b != 0 ? 1 : 0;
                default: return a != 0 || b != 0 ? 1 : 0;
            }
        }
    }

    /** An evening in thought: it changes nothing of the house. */
    private static final class Evening {
        private final House house;
        private Text rule;
        private final int[] names = new int[6];
        private final int[] lastSang = new int[MOST_GROUPS];
        private final int[] sungBy = new int[MOST_GROUPS];
        private final int[] bears = new int[MOST_GROUPS];
        /** Slips as they were called. */
        private final int[] row = new int[MOST_SLIPS];
        private int calls;
        /** The minute in which each slip began, or NONE. */
        private final int[] begins = new int[MOST_SLIPS];
        private int called;
        private int minute;
        private int mood;
        private int bar;
        private int left;
        private int sung;
        private int there;

        Evening(House house) {
            this.house = house;
        }

        void begin(Text byRule) {
            rule = byRule;
            Arrays.fill(lastSang, 0);
            Arrays.fill(sungBy, 0);
            Arrays.fill(begins, NONE);
            calls = 0;
            called = 0;
            minute = 0;
            mood = house.mood;
            bar = 0;
            left = 0;
            sung = 0;
            there = (1 << house.peopleCount) - 1;
        }

        /** A search asks neither for the row nor when a slip began: these two are not copied. */
        void goOnFrom(Evening other) {
            rule = other.rule;
            System.arraycopy(other.lastSang, 0, lastSang, 0, MOST_GROUPS);
            System.arraycopy(other.sungBy, 0, sungBy, 0, MOST_GROUPS);
            calls = other.calls;
            called = other.called;
            minute = other.minute;
            mood = other.mood;
            bar = other.bar;
            left = other.left;
            sung = other.sung;
            there = other.there;
        }

        int answer(int what) {
            switch (what) {
                case TAKEN: return bar;
                case LEFT: return left;
                case SUNG: return sung;
                case MOOD_THEN: return mood;
                case MINUTE_THEN: return minute;
                case THERE: return there;
                default: return rowAsDigits();
            }
        }

        private int rowAsDigits() {
            int digits = 0;
            for (int i = 0; i < calls; i++) {
                digits = digits * 10 + row[i] + 1;
            }
            return digits;
        }

        boolean wasCalled(int s) {
            return (called >> s & 1) == 1;
        }

        void leaveOut(int s) {
            if (house.hasSlip(s)) {
                called |= 1 << s;
            }
        }

        private boolean wouldBeSung(int s) {
            Slip slip = house.slips[s];
            return (there >> slip.whose & 1) == 1 && minute + slip.minutes <= house.till;
        }

        void callSlip(int s) {
            if (!house.hasSlip(s) || wasCalled(s) || calls >= MOST_SLIPS) {
                return;
            }
            called |= 1 << s;
            row[calls] = s;
            calls++;
            if (!wouldBeSung(s)) {
                return;
            }
            Slip slip = house.slips[s];
            int group = house.groupOf(slip);
            begins[s] = minute;
            minute += slip.minutes;
            mood = within(mood + slip.moves(mood), -99, 99);
            lastSang[group] = minute;
            sungBy[group]++;
            sung++;
            nameAll(0, 0, slip.kind);
            int drink = within(rule.worth(Text.TAKES_PART, names), 0, 99);
            bar += Math.max(0, slip.thirst(Integer.bitCount(there))) * drink;
            letLeave();
        }

        private void nameAll(int waited, int sungSoFar, int sort) {
            names[0] = minute;
            names[1] = waited;
            names[2] = sungSoFar;
            names[3] = sort;
            names[4] = bar;
            names[5] = mood;
        }

        /** All of a group bear as much, so each group is asked once. */
        private void letLeave() {
            int asked = 0;
            for (int p = 0; p < house.peopleCount; p++) {
                if ((there >> p & 1) == 0) {
                    continue;
                }
                int group = house.people[p].group;
                int waited = minute - lastSang[group];
                if ((asked >> group & 1) == 0) {
                    nameAll(waited, sungBy[group], 0);
                    bears[group] = within(rule.worth(Text.BEARS_PART, names), -99, 99);
                    asked |= 1 << group;
                }
                if (waited > house.people[p].patience + bears[group]) {
                    there &= ~(1 << p);
                    left++;
                }
            }
        }

        void callRow(int digits) {
            for (int unit = 1000000; unit > 0; unit /= 10) {
                callSlip(digits / unit % 10 - 1);
            }
        }

        void callByDesk() {
            for (int i = 0; i < MOST_SLIPS; i++) {
                callSlip(firstByDesk());
            }
        }

        private int firstByDesk() {
            int chosen = NONE;
            int most = 0;
            for (int s = 0; s < house.slipCount; s++) {
                if (wasCalled(s) || !wouldBeSung(s)) {
                    continue;
                }
                Slip slip = house.slips[s];
                int group = house.groupOf(slip);
                nameAll(minute - lastSang[group], sungBy[group], slip.kind);
                int first = rule.worth(Text.FIRST_PART, names);
                if (chosen == NONE || first > most) {
                    chosen = s;
                    most = first;
                }
            }
            return chosen;
        }

        void callByChance(int seed) {
            int z = seed;
            for (int m = house.slipCount; m > 0; m--) {
                z = z * 1103515245 + 12345;
                callSlip(uncalled((z >>> 9) % m));
            }
        }

        private int uncalled(int number) {
            int ahead = number;
            for (int s = 0; s < house.slipCount; s++) {
                if (wasCalled(s)) {
                    continue;
                }
                if (ahead == 0) {
                    return s;
                }
                ahead--;
            }
            return NONE;
        }
    }

    /** Looks through all rows in their order, for both sorts of BEST at once. */
    private static final class Search {
        private static final int SORTS = 2, ANSWERS = 4;
        private static final int MOST_TAKEN = 0, FEWEST_LEFT = 1;

        private final House house;
        private final Evening[] evenings = new Evening[MOST_SLIPS + 1];
        private final int[] taken = new int[SORTS];
        private final int[] left = new int[SORTS];
        private final int[] sung = new int[SORTS];
        private final int[] row = new int[SORTS];
        private int looked = NONE;

        Search(House house) {
            this.house = house;
            for (int i = 0; i <= MOST_SLIPS; i++) {
                evenings[i] = new Evening(house);
            }
        }

        /** What was found holds till the house changes. */
        void look(Text rule) {
            if (looked == house.changes) {
                return;
            }
            looked = house.changes;
            evenings[0].begin(rule);
            note(MOST_TAKEN, evenings[0], 0);
            note(FEWEST_LEFT, evenings[0], 0);
            goOn(0, 0);
        }

        int answer(int sort, int what) {
            switch (what) {
                case TAKEN: return taken[sort];
                case LEFT: return left[sort];
                case SUNG: return sung[sort];
                default: return row[sort];
            }
        }

        private void note(int sort, Evening evening, int digits) {
            taken[sort] = evening.bar;
            left[sort] = evening.left;
            sung[sort] = evening.sung;
            row[sort] = digits;
        }

        /** Rows come in the order that decides between like ones, so only a better one is noted. */
        private void goOn(int depth, int digits) {
            if (depth >= house.slipCount) {
                return;
            }
            Evening next = evenings[depth + 1];
            for (int s = 0; s < house.slipCount; s++) {
                if (evenings[depth].wasCalled(s)) {
                    continue;
                }
                next.goOnFrom(evenings[depth]);
                next.callSlip(s);
                int longer = digits * 10 + s + 1;
                if (next.bar > taken[MOST_TAKEN]) {
                    note(MOST_TAKEN, next, longer);
                }
                if (losesFewer(next)) {
                    note(FEWEST_LEFT, next, longer);
                }
                goOn(depth + 1, longer);
            }
        }

        private boolean losesFewer(Evening evening) {
            return evening.left < left[FEWEST_LEFT]
                || evening.left == left[FEWEST_LEFT] && evening.sung > sung[FEWEST_LEFT];
        }
    }
}
