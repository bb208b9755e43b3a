/** Rows of several sources, parted into persons, with one golden value for each person and field. */
public final class GoldenRows {
    public static final int NONE = -1;

    private static final int SOURCES = 6;
    private static final int FIELDS = 6;
    private static final int ALL_FIELDS = 63;
    private static final int GREATEST_TRUST = 9;
    private static final int GREATEST_FADE = 50;
    private static final int GREATEST_VALUE = 999999;
    private static final int LAST_DAY = 100000;
    private static final int MOST_DAYS_LATER = 1000;

    private static final int MOST_ROWS = 10;
    private static final int MOST_CELLS = MOST_ROWS * FIELDS;
    private static final int MOST_VERSIONS = 150;
    private static final int MOST_HANDS = 20;
    private static final int MOST_FIXES = 20;
    private static final int MOST_REFUSALS = 60;

    private static final int MOST_BYTES = 500;
    private static final int FED_BYTES = 20;
    private static final int MOST_LETTERS = 8;
    private static final int MOST_DIGITS = 6;
    private static final int MOST_LINES = 10;
    private static final int GREATEST_LINE_NUMBER = 1000;
    private static final int MOST_TESTS = 60;
    private static final int TOO_DEEP = 8;
    // A step comes from a word, and the shortest such word (or) has two bytes.
    private static final int MOST_STEPS = MOST_BYTES / 2;

    private static final int NO_TOKEN = 1;
    private static final int CANNOT_STAND = 2;
    private static final int CANNOT_BE = 3;

    private static final int BY_FIX = -2;
    private static final int PERSONS_IN_QUARREL = -2;
    private static final int WORTH_IN_QUARREL = -2000000;

    private int day;
    private boolean seen;
    private boolean parted;
    private Book book;
    private Book spareBook;
    private final Weights weights;
    private final int[] allowed;
    private final Rows rows;
    private final Versions versions;
    private final Tape tape;
    private final Parser parser;
    private final ByHand hands;
    private final ByHand fixes;
    private final Sight sight;
    private final Parting parting;
    private final Voices voices;
    private final Wishes refused;
    private final Wishes wishes;

    public GoldenRows() {
        book = new Book();
        spareBook = new Book();
        weights = new Weights();
        allowed = new int[SOURCES];
        rows = new Rows();
        versions = new Versions();
        tape = new Tape();
        parser = new Parser();
        hands = new ByHand(MOST_HANDS);
        fixes = new ByHand(MOST_FIXES);
        sight = new Sight();
        parting = new Parting();
        voices = new Voices();
        refused = new Wishes(MOST_REFUSALS);
        wishes = new Wishes(MOST_CELLS);
    }

    public boolean trust(int source, int field, int trust) {
        if (!isSource(source) || !isField(field) || trust < 0 || trust > GREATEST_TRUST) {
            return false;
        }
        weights.trust[source * FIELDS + field] = trust;
        return true;
    }

    public boolean fade(int field, int fade) {
        if (!isField(field) || fade < 0 || fade > GREATEST_FADE) {
            return false;
        }
        weights.fade[field] = fade;
        return true;
    }

    public boolean rights(int source, int fields) {
        if (!isSource(source) || fields < 0 || fields > ALL_FIELDS) {
            return false;
        }
        allowed[source] = fields;
        return true;
    }

    public int row(int source) {
        if (!isSource(source)) {
            return NONE;
        }
        seen = false;
        return rows.add(source, day);
    }

    public int set(int row, int field, int value, int day) {
        if (!rows.isAlive(row) || !isField(field) || !isValue(value) || day < 0 || day > LAST_DAY) {
            return NONE;
        }
        if (versions.count >= MOST_VERSIONS) {
            return NONE;
        }
        seen = false;
        versions.add(row, field, value, day, this.day, false);
        return versions.count;
    }

    public int value(int row, int field, int d, int k) {
        look(d, k);
        return sight.valueOf(row, field);
    }

    public boolean forget(int row) {
        if (!rows.isAlive(row)) {
            return false;
        }
        seen = false;
        rows.forgotten[row] = true;
        return true;
    }

    public int later(int days) {
        if (days < 0 || days > MOST_DAYS_LATER || day + days > LAST_DAY) {
            return NONE;
        }
        day += days;
        return day;
    }

    public int feed(int a, int b, int c, int d, int e) {
        if (tape.length + FED_BYTES > MOST_BYTES) {
            return NONE;
        }
        tape.append(a);
        tape.append(b);
        tape.append(c);
        tape.append(d);
        tape.append(e);
        return tape.length;
    }

    public int end(int n) {
        if (n < 0 || n > tape.length) {
            return NONE;
        }
        tape.length = n;
        return n;
    }

    public int rules() {
        boolean good = parser.readAll(tape, spareBook);
        tape.length = 0;
        if (!good) {
            return NONE;
        }
        Book old = book;
        book = spareBook;
        spareBook = old;
        seen = false;
        return book.lines;
    }

    public int fault(int what) {
        switch (what) {
            case 0: return parser.faultKind;
            case 1: return parser.faultPlace;
            default: return NONE;
        }
    }

    public int score(int a, int b, int d, int k) {
        look(d, k);
        if (a == b || !sight.isThere(a) || !sight.isThere(b)) {
            return 0;
        }
        return book.sum(sight, rows, a, b);
    }

    public int hand(int a, int b, boolean must) {
        if (a == b || !rows.isAlive(a) || !rows.isAlive(b)) {
            return NONE;
        }
        seen = false;
        return hands.tell(a, b, must ? 1 : 0, day);
    }

    public boolean unhand(int hand) {
        seen = false;
        return hands.untell(hand, day);
    }

    public int persons(int d, int k) {
        return part(d, k) ? parting.persons : PERSONS_IN_QUARREL;
    }

    public int worth(int d, int k) {
        return part(d, k) ? parting.total : WORTH_IN_QUARREL;
    }

    public int person(int row, int d, int k) {
        return part(d, k) ? parting.personOf(row) : NONE;
    }

    public int golden(int row, int field, int d, int k) {
        int person = personAsked(row, field, d, k);
        return person == NONE ? NONE : goldenOf(person, field);
    }

    public int from(int row, int field, int d, int k) {
        int person = personAsked(row, field, d, k);
        if (person == NONE) {
            return NONE;
        }
        if (latestFix(person, field) != NONE) {
            return BY_FIX;
        }
        hear(person, field);
        return voices.strongest;
    }

    public int torn(int row, int field, int d, int k) {
        int person = personAsked(row, field, d, k);
        if (person == NONE) {
            return NONE;
        }
        hear(person, field);
        return voices.different;
    }

    public int fix(int row, int field, int value) {
        if (!rows.isAlive(row) || !isField(field) || !isValue(value)) {
            return NONE;
        }
        return fixes.tell(row, field, value, day);
    }

    public boolean unfix(int fix) {
        return fixes.untell(fix, day);
    }

    public int changes(int source) {
        if (!isSource(source)) {
            return NONE;
        }
        listWishes(source);
        return wishes.count;
    }

    public int change(int source, int k, int what) {
        if (!hasWish(source, k)) {
            return NONE;
        }
        switch (what) {
            case 0: return wishes.row[k];
            case 1: return wishes.field[k];
            case 2: return wishes.value[k];
            default: return NONE;
        }
    }

    public boolean accept(int source, int k) {
        if (!hasWish(source, k) || versions.count >= MOST_VERSIONS) {
            return false;
        }
        seen = false;
        versions.add(wishes.row[k], wishes.field[k], wishes.value[k], day, day, true);
        return true;
    }

    public boolean refuse(int source, int k) {
        if (!hasWish(source, k) || refused.count >= MOST_REFUSALS) {
            return false;
        }
        refused.add(wishes.row[k], wishes.field[k], wishes.value[k]);
        return true;
    }

    public int about(int what) {
        switch (what) {
            case 0: return day;
            case 1: return rows.count;
            case 2: return versions.count;
            case 3: return hands.count;
            case 4: return fixes.count;
            case 5: return book.lines;
            case 6: return refused.count;
            case 7: return tape.length;
            default: return NONE;
        }
    }

    private static boolean isSource(int source) {
        return source >= 0 && source < SOURCES;
    }

    private static boolean isField(int field) {
        return field >= 0 && field < FIELDS;
    }

    private static boolean isValue(int value) {
        return value >= 0 && value <= GREATEST_VALUE;
    }

    /** Makes the sight that of d as known on k; the last one is kept, as calls often ask for one day in a row. */
    private void look(int d, int k) {
        if (seen && sight.d == d && sight.k == k) {
            return;
        }
        sight.take(rows, versions, d, k);
        seen = true;
        parted = false;
    }

    /** Makes the parting BEST on d as known on k; false if HANDS QUARREL. */
    private boolean part(int d, int k) {
        look(d, k);
        if (!parted) {
            parting.gather(sight);
            parting.bind(hands, k);
            parting.weighPairs(book, sight, rows);
            parting.choose();
            parted = true;
        }
        return parting.found;
    }

    /** The person of a row, for a question about a field; NONE for what is no field, too. */
    private int personAsked(int row, int field, int d, int k) {
        return isField(field) && part(d, k) ? parting.personOf(row) : NONE;
    }

    /** Lets the rows of a person speak, in the parting that was made last. */
    private void hear(int person, int field) {
        voices.gather(sight, rows, parting, weights, person, field);
        voices.choose();
    }

    private int goldenOf(int person, int field) {
        int fix = latestFix(person, field);
        if (fix != NONE) {
            return fixes.value[fix];
        }
        hear(person, field);
        return voices.loudest;
    }

    /** The number of the last fix that holds for one of a person's rows. */
    private int latestFix(int person, int field) {
        for (int i = fixes.count - 1; i >= 0; i--) {
            if (fixes.aim[i] == field && fixes.isHeld(i, sight.k) && parting.personOf(fixes.row[i]) == person) {
                return i;
            }
        }
        return NONE;
    }

    private boolean hasWish(int source, int k) {
        if (!isSource(source)) {
            return false;
        }
        listWishes(source);
        return k >= 0 && k < wishes.count;
    }

    /** Lists the CHANGES of a source as they are today. */
    private void listWishes(int source) {
        wishes.count = 0;
        if (!part(day, day)) {
            return;
        }
        for (int row = 0; row < rows.count; row++) {
            if (rows.source[row] == source && sight.isThere(row)) {
                listWishesOf(row, allowed[source]);
            }
        }
    }

    private void listWishesOf(int row, int fields) {
        int person = parting.personOf(row);
        for (int field = 0; field < FIELDS; field++) {
            if ((fields >> field & 1) == 1) {
                int golden = goldenOf(person, field);
                if (golden != NONE && golden != sight.valueOf(row, field) && !refused.has(row, field, golden)) {
                    wishes.add(row, field, golden);
                }
            }
        }
    }

    /** TRUST of each source in each field, and FADE of each field. */
    private static final class Weights {
        final int[] trust;
        final int[] fade;

        Weights() {
            trust = new int[SOURCES * FIELDS];
            fade = new int[FIELDS];
            for (int i = 0; i < trust.length; i++) {
                trust[i] = 1;
            }
        }

        /** Long inside, because a day that is asked for can lie as far off as an int goes. */
        int weight(int source, int field, long age) {
            long weight = 100L * trust[source * FIELDS + field] - fade[field] * age;
            return weight > 0 ? (int) weight : 0;
        }
    }

    /** The rows, the forgotten ones too, as their numbers stay. */
    private static final class Rows {
        int count;
        final int[] source;
        final int[] told;
        final boolean[] forgotten;

        Rows() {
            source = new int[MOST_ROWS];
            told = new int[MOST_ROWS];
            forgotten = new boolean[MOST_ROWS];
        }

        /** The new row's number; NONE if there is no room for it. */
        int add(int ofSource, int today) {
            int row = count;
            if (row >= MOST_ROWS) {
                return NONE;
            }
            source[row] = ofSource;
            told[row] = today;
            count++;
            return row;
        }

        boolean isAlive(int row) {
            return row >= 0 && row < count && !forgotten[row];
        }
    }

    /** What was told of rows and fields, in the order in which it was told. */
    private static final class Versions {
        int count;
        final int[] row;
        final int[] field;
        final int[] value;
        final int[] since;
        final int[] told;
        final boolean[] echo;

        Versions() {
            row = new int[MOST_VERSIONS];
            field = new int[MOST_VERSIONS];
            value = new int[MOST_VERSIONS];
            since = new int[MOST_VERSIONS];
            told = new int[MOST_VERSIONS];
            echo = new boolean[MOST_VERSIONS];
        }

        void add(int ofRow, int ofField, int newValue, int from, int today, boolean isEcho) {
            if (count >= MOST_VERSIONS) {
                return;
            }
            row[count] = ofRow;
            field[count] = ofField;
            value[count] = newValue;
            since[count] = from;
            told[count] = today;
            echo[count] = isEcho;
            count++;
        }
    }

    /** The rows that are there, and their values, on a day d as known on a day k. */
    private static final class Sight {
        int d;
        int k;
        final boolean[] there;
        final int[] value;
        final int[] since;
        final boolean[] echo;

        Sight() {
            there = new boolean[MOST_ROWS];
            value = new int[MOST_CELLS];
            since = new int[MOST_CELLS];
            echo = new boolean[MOST_CELLS];
        }

        void take(Rows rows, Versions versions, int onDay, int knownOn) {
            d = onDay;
            k = knownOn;
            for (int row = 0; row < MOST_ROWS; row++) {
                there[row] = rows.isAlive(row) && rows.told[row] <= knownOn;
            }
            for (int cell = 0; cell < MOST_CELLS; cell++) {
                value[cell] = NONE;
            }
            for (int i = 0; i < versions.count; i++) {
                if (versions.told[i] <= knownOn && versions.since[i] <= onDay && there[versions.row[i]]) {
                    takeVersion(versions, i);
                }
            }
        }

        /** Versions come in the order of their telling, so of like days the later one takes the place. */
        private void takeVersion(Versions versions, int i) {
            int cell = versions.row[i] * FIELDS + versions.field[i];
            if (value[cell] == NONE || versions.since[i] >= since[cell]) {
                value[cell] = versions.value[i];
                since[cell] = versions.since[i];
                echo[cell] = versions.echo[i];
            }
        }

        boolean isThere(int row) {
            return row >= 0 && row < MOST_ROWS && there[row];
        }

        int valueOf(int row, int field) {
            return isThere(row) && isField(field) ? value[row * FIELDS + field] : NONE;
        }
    }

    /**
     * What was told by hand, and when it was told and untold. Of a HAND: a row, the other row, and 1 if they must
     * be one person's; of a FIX: a row, a field and the value.
     */
    private static final class ByHand {
        int count;
        final int[] row;
        final int[] aim;
        final int[] value;
        private final int[] told;
        private final int[] untold;

        ByHand(int most) {
            int length = Math.max(most, 0);
            row = new int[length];
            aim = new int[length];
            value = new int[length];
            told = new int[length];
            untold = new int[length];
        }

        /** The number of what is told now; NONE if there is no room for it. */
        int tell(int ofRow, int withAim, int newValue, int today) {
            int number = count;
            if (number >= row.length) {
                return NONE;
            }
            row[number] = ofRow;
            aim[number] = withAim;
            value[number] = newValue;
            told[number] = today;
            untold[number] = NONE;
            count++;
            return number;
        }

        boolean untell(int number, int today) {
            if (number < 0 || number >= count || untold[number] != NONE) {
                return false;
            }
            untold[number] = today;
            return true;
        }

        boolean isHeld(int number, int k) {
            if (number < 0 || number >= count) {
                return false;
            }
            return told[number] <= k && (untold[number] == NONE || untold[number] > k);
        }
    }

    /** Values for rows and fields: those that a source is to be sent, or those that were refused. */
    private static final class Wishes {
        int count;
        final int[] row;
        final int[] field;
        final int[] value;

        Wishes(int most) {
            int length = Math.max(most, 0);
            row = new int[length];
            field = new int[length];
            value = new int[length];
        }

        void add(int forRow, int forField, int newValue) {
            if (count >= row.length) {
                return;
            }
            row[count] = forRow;
            field[count] = forField;
            value[count] = newValue;
            count++;
        }

        boolean has(int forRow, int forField, int thatValue) {
            for (int i = 0; i < count; i++) {
                if (row[i] == forRow && field[i] == forField && value[i] == thatValue) {
                    return true;
                }
            }
            return false;
        }
    }

    /** The bytes that were fed, and the token that is looked at. A sign's kind is its own byte. */
    private static final class Tape {
        static final int END = 0;
        static final int BAD = 1;
        static final int WORD = 2;
        static final int NUMBER = 3;

        private static final int OTHER = 0;
        private static final int BLANK = 1;
        private static final int LETTER = 2;
        private static final int DIGIT = 3;
        private static final int SIGN = 4;

        int length;
        int kind;
        int place;
        int number;
        private int behind;
        private final int[] bytes;
        private final int[] sort;

        Tape() {
            bytes = new int[MOST_BYTES];
            sort = new int[MOST_BYTES];
        }

        void append(int fourBytes) {
            for (int shift = 24; shift >= 0; shift -= 8) {
                if (length < MOST_BYTES) {
                    bytes[length] = fourBytes >>> shift & 255;
                    sort[length] = sortOf(bytes[length]);
                    length++;
                }
            }
        }

        private static int sortOf(int c) {
            if (c >= 'a' && c <= 'z') {
                return LETTER;
            }
            if (c >= '0' && c <= '9') {
                return DIGIT;
            }
            if (c == ';' || c == '(' || c == ')') {
                return SIGN;
            }
            return c == 32 || c == 10 ? BLANK : OTHER;
        }

        void rewind() {
            behind = 0;
            advance();
        }

        void advance() {
            while (behind < length && sort[behind] == BLANK) {
                behind++;
            }
            place = behind;
            if (behind >= length) {
                kind = END;
            } else if (sort[behind] == LETTER) {
                takeWord();
            } else if (sort[behind] == DIGIT) {
                takeNumber();
            } else {
                kind = sort[behind] == SIGN ? bytes[behind] : BAD;
                behind++;
            }
        }

        private void takeWord() {
            while (behind < length && sort[behind] == LETTER) {
                behind++;
            }
            kind = behind - place > MOST_LETTERS ? BAD : WORD;
        }

        private void takeNumber() {
            number = 0;
            while (behind < length && sort[behind] == DIGIT) {
                number = number * 10 + (bytes[behind] - '0');
                behind++;
            }
            boolean letterBehind = behind < length && sort[behind] == LETTER;
            kind = letterBehind || behind - place > MOST_DIGITS ? BAD : NUMBER;
        }

        boolean reads(String word) {
            if (kind != WORD || word.length() != behind - place) {
                return false;
            }
            for (int i = 0; i < word.length(); i++) {
                if (bytes[place + i] != word.charAt(i)) {
                    return false;
                }
            }
            return true;
        }
    }

    /** Reads the text of RULES into a book, up to the first fault. */
    private static final class Parser {
        int faultKind;
        int faultPlace;

        Parser() {
            faultPlace = NONE;
        }

        boolean readAll(Tape tape, Book book) {
            faultKind = 0;
            faultPlace = NONE;
            book.clear();
            tape.rewind();
            for (int line = 0; line <= MOST_LINES && tape.kind != Tape.END; line++) {
                if (line == MOST_LINES) {
                    return stop(tape, CANNOT_STAND);
                }
                if (!readLine(tape, book)) {
                    return false;
                }
            }
            return true;
        }

        /** What is no token can't stand anywhere either, and at one place the least fault counts. */
        private boolean stop(Tape tape, int kind) {
            faultKind = tape.kind == Tape.BAD ? NO_TOKEN : kind;
            faultPlace = tape.place;
            return false;
        }

        private boolean readLine(Tape tape, Book book) {
            boolean isBar = tape.reads("bar");
            if (!isBar && !tape.reads("link")) {
                return stop(tape, CANNOT_STAND);
            }
            tape.advance();
            if (!readNumber(tape, 1, GREATEST_LINE_NUMBER)) {
                return false;
            }
            int number = tape.number;
            tape.advance();
            if (!tape.reads("when")) {
                return stop(tape, CANNOT_STAND);
            }
            tape.advance();
            if (!readEither(tape, book, 0)) {
                return false;
            }
            if (tape.kind != ';') {
                return stop(tape, CANNOT_STAND);
            }
            tape.advance();
            book.closeLine(isBar ? -number : number);
            return true;
        }

        /** Looks at a number without going past it. */
        private boolean readNumber(Tape tape, int least, int greatest) {
            if (tape.kind != Tape.NUMBER) {
                return stop(tape, CANNOT_STAND);
            }
            if (tape.number < least || tape.number > greatest) {
                return stop(tape, CANNOT_BE);
            }
            return true;
        }

        /** Reads an e. An or waits for its second both, as every and behind it binds closer. */
        private boolean readEither(Tape tape, Book book, int depth) {
            if (!readOne(tape, book, depth)) {
                return false;
            }
            boolean orWaits = false;
            for (int i = 0; i < MOST_BYTES && (tape.reads("or") || tape.reads("and")); i++) {
                boolean isOr = tape.reads("or");
                if (isOr && orWaits) {
                    book.addStep(Book.OR, 0, 0);
                }
                orWaits = orWaits || isOr;
                tape.advance();
                if (!readOne(tape, book, depth)) {
                    return false;
                }
                if (!isOr) {
                    book.addStep(Book.AND, 0, 0);
                }
            }
            if (orWaits) {
                book.addStep(Book.OR, 0, 0);
            }
            return true;
        }

        private boolean readOne(Tape tape, Book book, int depth) {
            if (depth >= TOO_DEEP) {
                return stop(tape, CANNOT_STAND);
            }
            if (tape.reads("not")) {
                tape.advance();
                if (!readOne(tape, book, depth + 1)) {
                    return false;
                }
                book.addStep(Book.NOT, 0, 0);
                return true;
            }
            if (tape.kind != '(') {
                return readTest(tape, book);
            }
            tape.advance();
            if (!readEither(tape, book, depth + 1)) {
                return false;
            }
            if (tape.kind != ')') {
                return stop(tape, CANNOT_STAND);
            }
            tape.advance();
            return true;
        }

        private boolean readTest(Tape tape, Book book) {
            boolean isSource = tape.reads("source");
            boolean isLacks = tape.reads("lacks");
            boolean isNear = tape.reads("near");
            if (!isSource && !isLacks && !isNear && !tape.reads("same") || book.tests >= MOST_TESTS) {
                return stop(tape, CANNOT_STAND);
            }
            book.tests++;
            tape.advance();
            if (isSource) {
                book.addStep(Book.SOURCE, 0, 0);
                return true;
            }
            if (!readNumber(tape, 0, FIELDS - 1)) {
                return false;
            }
            int field = tape.number;
            tape.advance();
            // Two values are the same if they are near by 0.
            int reach = 0;
            if (isNear) {
                if (!readNumber(tape, 0, GREATEST_VALUE)) {
                    return false;
                }
                reach = tape.number;
                tape.advance();
            }
            book.addStep(isLacks ? Book.LACKS : Book.NEAR, field, reach);
            return true;
        }
    }

    /** RULES as they are used: for each line its number, less for bar, and its e as steps on a stack of bits. */
    private static final class Book {
        static final int NEAR = 0;
        static final int LACKS = 1;
        static final int SOURCE = 2;
        static final int NOT = 3;
        static final int AND = 4;
        static final int OR = 5;

        int lines;
        int tests;
        private int steps;
        private final int[] number;
        private final int[] stepsBehind;
        private final int[] kind;
        private final int[] field;
        private final int[] reach;

        Book() {
            number = new int[MOST_LINES];
            stepsBehind = new int[MOST_LINES];
            kind = new int[MOST_STEPS];
            field = new int[MOST_STEPS];
            reach = new int[MOST_STEPS];
        }

        void clear() {
            lines = 0;
            tests = 0;
            steps = 0;
        }

        void addStep(int ofKind, int ofField, int withReach) {
            if (steps < MOST_STEPS) {
                kind[steps] = ofKind;
                field[steps] = ofField;
                reach[steps] = withReach;
                steps++;
            }
        }

        void closeLine(int withNumber) {
            if (lines < MOST_LINES) {
                number[lines] = withNumber;
                stepsBehind[lines] = steps;
                lines++;
            }
        }

        /** The SCORE of two rows that are there. */
        int sum(Sight sight, Rows rows, int a, int b) {
            int sum = 0;
            int first = 0;
            for (int line = 0; line < lines; line++) {
                if (isMet(first, stepsBehind[line], sight, rows, a, b)) {
                    sum += number[line];
                }
                first = stepsBehind[line];
            }
            return sum;
        }

        /** The stack is a long's bits: with the depth that a line may have, some twenty lie on it at most. */
        private boolean isMet(int first, int behind, Sight sight, Rows rows, int a, int b) {
            long stack = 0;
            for (int step = first; step < behind; step++) {
                switch (kind[step]) {
                    case NOT:
                        stack ^= 1L;
                        break;
                    case AND:
                        stack = stack >>> 1 & (stack | ~1L);
                        break;
                    case OR:
                        stack = stack >>> 1 | stack & 1L;
                        break;
                    default:
                        stack = stack << 1 | (isTestMet(step, sight, rows, a, b) ? 1L : 0L);
                        break;
                }
            }
            return (stack & 1L) == 1L;
        }

        private boolean isTestMet(int step, Sight sight, Rows rows, int a, int b) {
            if (kind[step] == SOURCE) {
                return rows.source[a] == rows.source[b];
            }
            int one = sight.value[a * FIELDS + field[step]];
            int other = sight.value[b * FIELDS + field[step]];
            boolean lacking = one == NONE || other == NONE;
            if (kind[step] == LACKS) {
                return lacking;
            }
            return !lacking && one - other <= reach[step] && other - one <= reach[step];
        }
    }

    /**
     * The parting BEST. Sets of rows are bits, with bit 0 for the last row that is there, so that a set's
     * highest bit is its least row. A parting's key has its worth in front, and behind it the persons' numbers,
     * four bits a row, the least row's in front: so the greatest key is the best worth's first parting.
     */
    private static final class Parting {
        private static final int MOST_SETS = 1 << MOST_ROWS;
        private static final int MOST_REST_SETS = MOST_SETS / 2;
        private static final int NUMBER_BITS = 4;
        private static final int NUMBER_MASK = 15;
        private static final int WORTH_SHIFT = NUMBER_BITS * MOST_ROWS;
        private static final int CLASH = 1 << 20;
        // Far below every key, as a worth needs twenty bits in front of the numbers.
        private static final long NEVER = 1L << 63;

        boolean found;
        int persons;
        int total;
        private int size;
        private final int[] person;
        private final int[] rowOf;
        private final int[] bitOf;
        private final int[] score;
        private final int[] with;
        private final int[] without;
        private final int[] bond;
        private final int[] worthOf;
        private final int[] needs;
        private final long[] tail;
        private final long[] ones;

        Parting() {
            person = new int[MOST_ROWS];
            rowOf = new int[MOST_ROWS];
            bitOf = new int[MOST_ROWS];
            score = new int[MOST_ROWS * MOST_ROWS];
            with = new int[MOST_ROWS];
            without = new int[MOST_ROWS];
            bond = new int[MOST_REST_SETS];
            worthOf = new int[MOST_SETS];
            needs = new int[MOST_SETS];
            tail = new long[MOST_REST_SETS];
            ones = new long[MOST_REST_SETS];
        }

        int personOf(int row) {
            return row >= 0 && row < MOST_ROWS ? person[row] : NONE;
        }

        void gather(Sight sight) {
            size = 0;
            for (int row = MOST_ROWS - 1; row >= 0; row--) {
                person[row] = NONE;
                bitOf[row] = NONE;
                if (sight.there[row]) {
                    bitOf[row] = size;
                    rowOf[size] = row;
                    with[size] = 0;
                    without[size] = 0;
                    size++;
                }
            }
        }

        /** A hand on a row that is forgotten binds nothing. */
        void bind(ByHand hands, int k) {
            for (int i = 0; i < hands.count; i++) {
                int one = bitOf[hands.row[i]];
                int other = bitOf[hands.aim[i]];
                if (one != NONE && other != NONE && hands.isHeld(i, k)) {
                    int[] bonds = hands.value[i] == 1 ? with : without;
                    bonds[one] |= 1 << other;
                    bonds[other] |= 1 << one;
                }
            }
        }

        void weighPairs(Book book, Sight sight, Rows rows) {
            for (int i = 0; i < size; i++) {
                for (int j = 0; j < i; j++) {
                    score[i * MOST_ROWS + j] = book.sum(sight, rows, rowOf[i], rowOf[j]);
                }
            }
        }

        void choose() {
            found = true;
            persons = 0;
            total = 0;
            if (size == 0) {
                return;
            }
            weighSets();
            chooseTails();
            int first = 1 << size - 1;
            long key = greatestKey(first, first - 1);
            found = key != NEVER;
            if (found) {
                readKey(key);
            }
        }

        /** For each set, as one person: its worth, and the rows that it needs (CLASH can't be met). */
        private void weighSets() {
            worthOf[0] = 0;
            needs[0] = 0;
            for (int i = 0; i < size; i++) {
                weighBonds(i);
                int bit = 1 << i;
                for (int rest = 0; rest < bit; rest++) {
                    worthOf[bit | rest] = worthOf[rest] + bond[rest];
                    int clash = (without[i] & rest) == 0 ? 0 : CLASH;
                    needs[bit | rest] = needs[rest] | with[i] | clash;
                }
            }
        }

        /** What row i adds to each set of the rows behind it. */
        private void weighBonds(int i) {
            bond[0] = 0;
            for (int j = 0; j < i; j++) {
                int bit = 1 << j;
                for (int rest = 0; rest < bit; rest++) {
                    bond[bit | rest] = bond[rest] + score[i * MOST_ROWS + j];
                }
            }
        }

        /** A tail is the greatest key of a set without the least row, its persons numbered from 1 on. */
        private void chooseTails() {
            tail[0] = 0;
            ones[0] = 0;
            for (int i = 0; i < size - 1; i++) {
                int bit = 1 << i;
                for (int rest = 0; rest < bit; rest++) {
                    ones[bit | rest] = ones[rest] | 1L << NUMBER_BITS * i;
                    long key = greatestKey(bit, rest);
                    tail[bit | rest] = key == NEVER ? NEVER : key + ones[bit | rest];
                }
            }
        }

        /** Of all partings of a set, given as its least row and the rest: the greatest key. */
        private long greatestKey(int least, int rest) {
            long greatest = NEVER;
            int part = rest;
            for (int left = 1 << Integer.bitCount(rest); left > 0; left--) {
                int own = least | part;
                long others = tail[rest ^ part];
                if ((needs[own] & ~own) == 0 && others != NEVER) {
                    greatest = Math.max(greatest, ((long) worthOf[own] << WORTH_SHIFT) + others);
                }
                part = part - 1 & rest;
            }
            return greatest;
        }

        private void readKey(long key) {
            total = (int) (key >> WORTH_SHIFT);
            for (int i = 0; i < size; i++) {
                int number = (int) (key >> NUMBER_BITS * i) & NUMBER_MASK;
                person[rowOf[i]] = number;
                persons = Math.max(persons, number + 1);
            }
        }
    }

    /** What the rows of one person say of one field. */
    private static final class Voices {
        int loudest;
        int strongest;
        int different;
        private int count;
        private final int[] row;
        private final int[] value;
        private final int[] since;
        private final int[] weight;

        Voices() {
            row = new int[MOST_ROWS];
            value = new int[MOST_ROWS];
            since = new int[MOST_ROWS];
            weight = new int[MOST_ROWS];
        }

        void gather(Sight sight, Rows rows, Parting parting, Weights weights, int person, int field) {
            count = 0;
            for (int r = 0; r < MOST_ROWS; r++) {
                int cell = r * FIELDS + field;
                if (parting.personOf(r) == person && sight.value[cell] != NONE && !sight.echo[cell]) {
                    row[count] = r;
                    value[count] = sight.value[cell];
                    since[count] = sight.since[cell];
                    weight[count] = weights.weight(rows.source[r], field, (long) sight.d - sight.since[cell]);
                    count++;
                }
            }
        }

        void choose() {
            loudest = NONE;
            strongest = NONE;
            different = 0;
            int greatestSum = NONE;
            int latest = NONE;
            for (int i = 0; i < count; i++) {
                if (isFirst(i)) {
                    different++;
                    int sum = sumFor(value[i]);
                    int last = latestFor(value[i]);
                    if (isAhead(sum - greatestSum, last - latest, loudest - value[i])) {
                        greatestSum = sum;
                        latest = last;
                        loudest = value[i];
                    }
                }
            }
            strongest = strongestFor(loudest);
        }

        private static boolean isAhead(int bySum, int byDay, int byValue) {
            if (bySum != 0) {
                return bySum > 0;
            }
            return byDay != 0 ? byDay > 0 : byValue > 0;
        }

        private boolean isFirst(int i) {
            for (int j = 0; j < i; j++) {
                if (value[j] == value[i]) {
                    return false;
                }
            }
            return true;
        }

        private int sumFor(int thatValue) {
            int sum = 0;
            for (int i = 0; i < count; i++) {
                if (value[i] == thatValue) {
                    sum += weight[i];
                }
            }
            return sum;
        }

        private int latestFor(int thatValue) {
            int latest = NONE;
            for (int i = 0; i < count; i++) {
                if (value[i] == thatValue) {
                    latest = Math.max(latest, since[i]);
                }
            }
            return latest;
        }

        private int strongestFor(int thatValue) {
            int strongestRow = NONE;
            int greatest = NONE;
            for (int i = 0; i < count; i++) {
                if (value[i] == thatValue && weight[i] > greatest) {
                    greatest = weight[i];
                    strongestRow = row[i];
                }
            }
            return strongestRow;
        }
    }
}
