/** Dishes in a valley that listen to one turning sky. */
public final class SkyListeners {
    public static final int BAD = -1, STATE = -2, FULL = -3, NONE = -9;
    public static final int NO = -1000000;

    private static final int MAY = -5;

    private static final int PLACES = 8;
    private static final int HOURS = 24;
    private static final int NOTES = 10;
    private static final int LONGEST_EACH = 12;
    private static final int SURE_OF = 10;
    private static final int IMAGES = 2;

    private static final int MOST_BYTES = 250;
    private static final int MOST_DISHES = 5;
    private static final int MOST_SPEAKERS = 5;
    private static final int MOST_NOISES = 3;
    private static final int MOST_ASKERS = 5;
    private static final int MOST_LENDINGS = 12;
    private static final int MOST_LOGGED = 10;
    private static final int MOST_UNDONE = 10;

    // The numbers of a row, in the order in which the text or the call tells them.
    private static final int MOUNT = 0;
    private static final int SPEAKER_PLACE = 0, SPEAKER_NOTE = 1, SPEAKER_FROM = 2, SPEAKER_TO = 3;
    private static final int NOISE_NOTE = 0, NOISE_EACH = 1, NOISE_SINCE = 2;
    private static final int ASKER_PLACE = 0, ASKER_SURE = 1;
    private static final int LENT_DISH = 0, LENT_HOUR = 1, LENT_ASKER = 2;
    private static final int LOG_HOUR = 0, LOG_DISH = 1, LOG_NOTE = 2, LOG_IS = 3;
    private static final int UNDO_DISH = 0, UNDO_MOUNT = 1;

    // A lending is always the last one, so that what takes it back needs no dish.
    private static final int NO_DISH = -1;

    private final Text text = new Text();
    private final Reader reader = new Reader();
    private final Valley told = new Valley();
    private final Valley draft = new Valley();
    private final Now now = new Now();
    private final Now imageZero = new Now();
    private final Now imageOne = new Now();
    private final int[] slots = new int[PLACES];
    private final int[] placesOf = new int[MOST_DISHES];
    private int keptImages = 0;
    private long traced = 0;

    public SkyListeners() {
    }

    // ---- the valley

    public int type(long v, int n) {
        if (n < 1 || n > 8) {
            return BAD;
        }
        return text.add(v, n) ? text.length : FULL;
    }

    public int clear() {
        int had = text.length;
        text.empty();
        return had;
    }

    public int valley() {
        int items = reader.readItems(text, draft);
        if (items >= 0) {
            told.copyFrom(draft);
            now.begin(told);
            keptImages = 0;
            text.empty();
        }
        return items;
    }

    public int looks(int d, int h) {
        return isDish(d) && isHour(h) ? now.placeSeen(d, h) : BAD;
    }

    public int hears(int d, int h) {
        if (!isDish(d) || !isHour(h)) {
            return BAD;
        }
        return told.notesSpoken(now.placeSeen(d, h), h) | told.notesOfNoises(h);
    }

    public int asker(int a, int what) {
        return isAsker(a) && isBit(what) ? told.askers.number(a, what) : BAD;
    }

    public int turn(int d, int mount) {
        if (!isDish(d) || mount < 0 || mount >= PLACES) {
            return BAD;
        }
        int before = now.mounts.number(d, MOUNT);
        if (before == mount) {
            return STATE;
        }
        now.mounts.set(d, MOUNT, mount);
        now.remember(d, before);
        return before;
    }

    // ---- lending

    public int lend(int d, int h, int a) {
        if (!isDish(d) || !isHour(h) || !isAsker(a)) {
            return BAD;
        }
        if (now.lendings.isFull()) {
            return FULL;
        }
        now.lendings.add(d, h, a, 0);
        now.remember(NO_DISH, 0);
        return now.lendings.many;
    }

    public int lent(int i, int what) {
        if (i < 0 || i >= now.lendings.many || what < LENT_DISH || what > LENT_ASKER) {
            return BAD;
        }
        return now.lendings.number(i, what);
    }

    public int twice(int what) {
        if (!isBit(what)) {
            return BAD;
        }
        return what == 0 ? now.firstLentTwice() : lentInVain();
    }

    public int undo() {
        if (now.undos.many == 0) {
            return STATE;
        }
        now.takeBack();
        return now.undos.many;
    }

    public int best(int a, int b, int what) {
        if (!areHours(a, b) || !isBit(what)) {
            return BAD;
        }
        int set = bestAskers(a, b);
        return what == 0 ? sureOf(set) : set;
    }

    public int chance(int a, int b, int what) {
        if (!areHours(a, b) || !isBit(what)) {
            return BAD;
        }
        int seen = placesSeenByAny(a, b);
        int all = 1;
        int allWrong = 1;
        for (int i = 0; i < told.askers.many; i++) {
            if (hasBit(seen, told.askers.number(i, ASKER_PLACE))) {
                all *= SURE_OF;
                allWrong *= SURE_OF - told.askers.number(i, ASKER_SURE);
            }
        }
        return inLeastTerms(all - allWrong, all, what);
    }

    public int apart(int a, int b, int what) {
        if (!areHours(a, b) || !isBit(what)) {
            return BAD;
        }
        int set = fewestApart(a, b);
        if (set == NONE) {
            return NONE;
        }
        return what == 0 ? Integer.bitCount(set) : set;
    }

    // ---- the log

    public int heard(int h, int d, int note, int is) {
        if (!isHour(h) || !isDish(d) || !isNote(note) || !isBit(is)) {
            return BAD;
        }
        if (now.log.isFull()) {
            return FULL;
        }
        now.log.add(h, d, note, is);
        return now.log.many;
    }

    public int forget() {
        int had = now.log.many;
        now.log.empty();
        return had;
    }

    public int sky(int note) {
        if (!isNote(note)) {
            return BAD;
        }
        int places = 0;
        for (int place = 0; place < PLACES; place++) {
            if (!now.isHeardElsewhere(note, place) && now.hoursLogged(note, place, 0) == 0) {
                places |= 1 << place;
            }
        }
        return places;
    }

    public int ours(int note, int what) {
        if (!isNote(note) || what < 0 || what > 2) {
            return BAD;
        }
        int laws = 0;
        int firstEach = NONE;
        int firstSince = NONE;
        for (int each = 1; each <= LONGEST_EACH; each++) {
            for (int since = 0; since < each; since++) {
                if (now.fitsLaw(note, each, since)) {
                    firstEach = laws == 0 ? each : firstEach;
                    firstSince = laws == 0 ? since : firstSince;
                    laws++;
                }
            }
        }
        return what == 0 ? laws : what == 1 ? firstEach : firstSince;
    }

    public int could(int note) {
        return isNote(note) ? speakersThatFit(note) : BAD;
    }

    public int must(int note, int d, int h) {
        if (!isNote(note) || !isDish(d) || !isHour(h)) {
            return BAD;
        }
        int all = speakersThatFit(note);
        if (all == 0) {
            return NONE;
        }
        int shown = now.spansThatFit(note, now.placeSeen(d, h), 1 << h);
        return shown == all ? 1 : shown == 0 ? 0 : MAY;
    }

    public int second(int d, int h) {
        if (!isDish(d) || !isHour(h)) {
            return BAD;
        }
        int place = now.placeSeen(d, h);
        int others = 0;
        for (int other = 0; other < now.mounts.many; other++) {
            if (other != d && hasBit(now.placesSeen(other, h, HOURS - 1), place)) {
                others++;
            }
        }
        return others;
    }

    // ---- kinds, images

    public int mark(int kind, int note) {
        if (!isNote(note)) {
            return NO;
        }
        switch (kind) {
            case 0:
                return markAsNote(note);
            case 1:
                return markAsVoice(note);
            case 2:
                return markAsHum(note);
            case 3:
                return markAsCall(note);
            case 4:
                return markAsKettle(note);
            case 5:
                return markAsEcho(note);
            default:
                return NO;
        }
    }

    public int keep(int image) {
        if (!isImage(image)) {
            return BAD;
        }
        imageOf(image).copyFrom(now);
        keptImages |= 1 << image;
        return now.lendings.many;
    }

    public int back(int image) {
        if (!isImage(image)) {
            return BAD;
        }
        if (!hasBit(keptImages, image)) {
            return STATE;
        }
        now.copyFrom(imageOf(image));
        return now.lendings.many;
    }

    public int count(int what) {
        switch (what) {
            case 0:
                return now.mounts.many;
            case 1:
                return told.speakers.many;
            case 2:
                return told.noises.many;
            case 3:
                return told.askers.many;
            case 4:
                return now.lendings.many;
            case 5:
                return now.log.many;
            case 6:
                return now.undos.many;
            case 7:
                return text.length;
            default:
                return BAD;
        }
    }

    public long trace() {
        return traced;
    }

    // ---- what a number may be

    private boolean isDish(int d) {
        return d >= 0 && d < now.mounts.many;
    }

    private boolean isAsker(int a) {
        return a >= 0 && a < told.askers.many;
    }

    private static boolean isHour(int h) {
        return h >= 0 && h < HOURS;
    }

    private static boolean areHours(int a, int b) {
        return isHour(a) && isHour(b) && a <= b;
    }

    private static boolean isNote(int note) {
        return note >= 0 && note < NOTES;
    }

    private static boolean isBit(int number) {
        return number == 0 || number == 1;
    }

    private static boolean isImage(int image) {
        return image >= 0 && image < IMAGES;
    }

    private static boolean hasBit(int bits, int bit) {
        return (bits >> bit & 1) == 1;
    }

    // Every row is read and written by these two alone, so that no index can be off.

    private static int at(int[] row, int i) {
        return row != null && i >= 0 && i < row.length ? row[i] : BAD;
    }

    private static void put(int[] row, int i, int value) {
        if (row != null && i >= 0 && i < row.length) {
            row[i] = value;
        }
    }

    // ---- lendings

    private int lentInVain() {
        int vain = 0;
        for (int i = 0; i < now.lendings.many; i++) {
            int seen = now.placeSeen(now.lendings.number(i, LENT_DISH), now.lendings.number(i, LENT_HOUR));
            if (seen != told.askers.number(now.lendings.number(i, LENT_ASKER), ASKER_PLACE)) {
                vain++;
            }
        }
        return vain;
    }

    private int sureOf(int set) {
        int sure = 0;
        for (int i = 0; i < told.askers.many; i++) {
            if (hasBit(set, i)) {
                sure += told.askers.number(i, ASKER_SURE);
            }
        }
        return sure;
    }

    // Sets are tried upwards and only a surer one is taken: so the least bits stay.
    private int bestAskers(int a, int b) {
        countSlots(a, b);
        int found = 0;
        for (int set = 1; set < 1 << told.askers.many; set++) {
            if (sureOf(set) > sureOf(found) && haveSlots(set)) {
                found = set;
            }
        }
        return found;
    }

    private void countSlots(int a, int b) {
        for (int place = 0; place < PLACES; place++) {
            put(slots, place, 0);
        }
        for (int d = 0; d < now.mounts.many; d++) {
            for (int h = a; h <= b && h < HOURS; h++) {
                int place = now.placeSeen(d, h);
                put(slots, place, at(slots, place) + 1);
            }
        }
    }

    // A dish and hour serves one place alone, so askers contend only within their place.
    private boolean haveSlots(int set) {
        for (int place = 0; place < PLACES; place++) {
            int askers = 0;
            for (int i = 0; i < told.askers.many; i++) {
                if (hasBit(set, i) && told.askers.number(i, ASKER_PLACE) == place) {
                    askers++;
                }
            }
            if (askers > at(slots, place)) {
                return false;
            }
        }
        return true;
    }

    private int placesSeenByAny(int a, int b) {
        int seen = 0;
        for (int d = 0; d < now.mounts.many; d++) {
            seen |= now.placesSeen(d, a, b);
        }
        return seen;
    }

    private static int inLeastTerms(int upper, int lower, int what) {
        int common = commonDivisor(upper, lower);
        int asked = what == 0 ? upper : lower;
        return common > 0 ? asked / common : asked;
    }

    private static int commonDivisor(int a, int b) {
        int larger = a;
        int smaller = b;
        for (int step = 0; step < 100 && smaller != 0; step++) {
            int left = larger % smaller;
            larger = smaller;
            smaller = left;
        }
        return larger;
    }

    private int fewestApart(int a, int b) {
        for (int d = 0; d < now.mounts.many; d++) {
            put(placesOf, d, now.placesSeen(d, a, b));
        }
        int found = NONE;
        for (int set = 0; set < 1 << now.mounts.many; set++) {
            boolean fewer = found == NONE || Integer.bitCount(set) < Integer.bitCount(found);
            if (fewer && tellsApart(set)) {
                found = set;
            }
        }
        return found;
    }

    // A dish looks at one place at a time: two stay alike only where neither is ever looked at.
    private boolean tellsApart(int set) {
        int seen = 0;
        for (int d = 0; d < now.mounts.many; d++) {
            if (hasBit(set, d)) {
                seen |= at(placesOf, d);
            }
        }
        return Integer.bitCount(seen) >= PLACES - 1;
    }

    private int speakersThatFit(int note) {
        int many = 0;
        for (int place = 0; place < PLACES; place++) {
            many += now.spansThatFit(note, place, 0);
        }
        return many;
    }

    // ---- marks

    private int markAsNote(int note) {
        traced += 1;
        return note;
    }

    private int markAsVoice(int note) {
        traced += 10;
        return markAsNote(note) + told.speakers.countWith(SPEAKER_NOTE, note);
    }

    private int markAsHum(int note) {
        traced += 100;
        return markAsNote(note) - told.noises.countWith(NOISE_NOTE, note);
    }

    private int markAsCall(int note) {
        traced += 1000;
        return markAsVoice(note) * 2;
    }

    private int markAsKettle(int note) {
        traced += 10000;
        return markAsHum(note) + now.timesHeard(note);
    }

    private int markAsEcho(int note) {
        traced += 100000;
        return markAsNote(note) + now.mounts.many;
    }

    private Now imageOf(int image) {
        return image == 0 ? imageZero : imageOne;
    }

    /** Rows of up to four numbers, as many as were allowed at most. */
    static final class Rows {
        static final int WIDTH = 4;
        static final int MOST_ROWS = 12;

        final int most;
        final int[] cells = new int[MOST_ROWS * WIDTH];
        int many = 0;

        Rows(int most) {
            this.most = Math.min(most, MOST_ROWS);
        }

        boolean isFull() {
            return many >= most;
        }

        void empty() {
            many = 0;
        }

        void add(int a, int b, int c, int d) {
            if (isFull()) {
                return;
            }
            many++;
            set(many - 1, 0, a);
            set(many - 1, 1, b);
            set(many - 1, 2, c);
            set(many - 1, 3, d);
        }

        int number(int row, int which) {
            return has(row, which) ? at(cells, row * WIDTH + which) : BAD;
        }

        void set(int row, int which, int value) {
            if (has(row, which)) {
                put(cells, row * WIDTH + which, value);
            }
        }

        private boolean has(int row, int which) {
            return row >= 0 && row < many && which >= 0 && which < WIDTH;
        }

        void dropLast() {
            many = Math.max(many - 1, 0);
        }

        void dropFirst() {
            for (int i = WIDTH; i < cells.length; i++) {
                put(cells, i - WIDTH, at(cells, i));
            }
            dropLast();
        }

        int countWith(int which, int value) {
            int found = 0;
            for (int row = 0; row < many; row++) {
                if (number(row, which) == value) {
                    found++;
                }
            }
            return found;
        }

        void copyFrom(Rows other) {
            if (other == null) {
                return;
            }
            for (int i = 0; i < cells.length; i++) {
                put(cells, i, at(other.cells, i));
            }
            many = Math.min(other.many, most);
        }
    }

    /** What the text has told. */
    static final class Valley {
        final Rows dishes = new Rows(MOST_DISHES);
        final Rows speakers = new Rows(MOST_SPEAKERS);
        final Rows noises = new Rows(MOST_NOISES);
        final Rows askers = new Rows(MOST_ASKERS);

        void empty() {
            dishes.empty();
            speakers.empty();
            noises.empty();
            askers.empty();
        }

        void copyFrom(Valley other) {
            if (other == null) {
                return;
            }
            dishes.copyFrom(other.dishes);
            speakers.copyFrom(other.speakers);
            noises.copyFrom(other.noises);
            askers.copyFrom(other.askers);
        }

        Rows rowsOf(int item) {
            switch (item) {
                case Text.DISH:
                    return dishes;
                case Text.SPEAKER:
                    return speakers;
                case Text.NOISE:
                    return noises;
                default:
                    return askers;
            }
        }

        int notesSpoken(int place, int h) {
            int notes = 0;
            for (int i = 0; i < speakers.many; i++) {
                boolean speaks = speakers.number(i, SPEAKER_FROM) <= h && h <= speakers.number(i, SPEAKER_TO);
                if (speaks && speakers.number(i, SPEAKER_PLACE) == place) {
                    notes |= 1 << speakers.number(i, SPEAKER_NOTE);
                }
            }
            return notes;
        }

        int notesOfNoises(int h) {
            int notes = 0;
            for (int i = 0; i < noises.many; i++) {
                if (isLawful(h, noises.number(i, NOISE_EACH), noises.number(i, NOISE_SINCE))) {
                    notes |= 1 << noises.number(i, NOISE_NOTE);
                }
            }
            return notes;
        }

        static boolean isLawful(int h, int each, int since) {
            return each > 0 && h % each == since;
        }
    }

    /** What changes between two texts: all that an image keeps. */
    static final class Now {
        final Rows mounts = new Rows(MOST_DISHES);
        final Rows lendings = new Rows(MOST_LENDINGS);
        final Rows log = new Rows(MOST_LOGGED);
        final Rows undos = new Rows(MOST_UNDONE);

        void begin(Valley valley) {
            if (valley == null) {
                return;
            }
            mounts.copyFrom(valley.dishes);
            lendings.empty();
            log.empty();
            undos.empty();
        }

        void copyFrom(Now other) {
            if (other == null) {
                return;
            }
            mounts.copyFrom(other.mounts);
            lendings.copyFrom(other.lendings);
            log.copyFrom(other.log);
            undos.copyFrom(other.undos);
        }

        int placeSeen(int d, int h) {
            return Math.floorMod(mounts.number(d, MOUNT) - h, PLACES);
        }

        int placesSeen(int d, int a, int b) {
            int places = 0;
            for (int h = a; h <= b && h < HOURS; h++) {
                places |= 1 << placeSeen(d, h);
            }
            return places;
        }

        void remember(int dish, int mount) {
            if (undos.isFull()) {
                undos.dropFirst();
            }
            undos.add(dish, mount, 0, 0);
        }

        void takeBack() {
            int dish = undos.number(undos.many - 1, UNDO_DISH);
            if (dish == NO_DISH) {
                lendings.dropLast();
            } else {
                mounts.set(dish, MOUNT, undos.number(undos.many - 1, UNDO_MOUNT));
            }
            undos.dropLast();
        }

        int firstLentTwice() {
            for (int i = 1; i < lendings.many; i++) {
                for (int ahead = 0; ahead < i; ahead++) {
                    boolean sameDish = lendings.number(i, LENT_DISH) == lendings.number(ahead, LENT_DISH);
                    if (sameDish && lendings.number(i, LENT_HOUR) == lendings.number(ahead, LENT_HOUR)) {
                        return i;
                    }
                }
            }
            return NONE;
        }

        int timesHeard(int note) {
            int times = 0;
            for (int i = 0; i < log.many; i++) {
                if (isLogged(i, note, 1)) {
                    times++;
                }
            }
            return times;
        }

        private boolean isLogged(int i, int note, int is) {
            return log.number(i, LOG_NOTE) == note && log.number(i, LOG_IS) == is;
        }

        boolean isHeardElsewhere(int note, int place) {
            for (int i = 0; i < log.many; i++) {
                int seen = placeSeen(log.number(i, LOG_DISH), log.number(i, LOG_HOUR));
                if (seen != place && isLogged(i, note, 1)) {
                    return true;
                }
            }
            return false;
        }

        /** The hours (bits) in which the log has the note, heard or not, of a dish that looks at the place. */
        int hoursLogged(int note, int place, int is) {
            int hours = 0;
            for (int i = 0; i < log.many; i++) {
                int hour = log.number(i, LOG_HOUR);
                if (isLogged(i, note, is) && placeSeen(log.number(i, LOG_DISH), hour) == place) {
                    hours |= 1 << hour;
                }
            }
            return hours;
        }

        boolean fitsLaw(int note, int each, int since) {
            for (int i = 0; i < log.many; i++) {
                boolean sounds = Valley.isLawful(log.number(i, LOG_HOUR), each, since);
                if (isLogged(i, note, sounds ? 0 : 1)) {
                    return false;
                }
            }
            return true;
        }

        /** How many spans of hours a speaker of the note at the place can have that hold all these hours, too. */
        int spansThatFit(int note, int place, int hours) {
            if (isHeardElsewhere(note, place)) {
                return 0;
            }
            int needed = hoursLogged(note, place, 1) | hours;
            int barred = hoursLogged(note, place, 0);
            int spans = 0;
            for (int from = 0; from < HOURS; from++) {
                int span = 0;
                for (int to = from; to < HOURS; to++) {
                    span |= 1 << to;
                    if ((span & needed) == needed && (span & barred) == 0) {
                        spans++;
                    }
                }
            }
            return spans;
        }
    }

    /** The text's bytes, and the token that was read last. */
    static final class Text {
        static final int DISH = 0, SPEAKER = 1, NOISE = 2, ASKER = 3;
        static final int NUMBER = 4, STOP = 5, END = 6, WRONG = 7;

        final int[] bytes = new int[MOST_BYTES];
        int length = 0;
        int next = 0;
        int start = 0;
        int token = END;
        int value = 0;

        boolean add(long v, int n) {
            if (length + n > MOST_BYTES) {
                return false;
            }
            for (int left = n - 1; left >= 0; left--) {
                put(bytes, length, (int) (v >>> (8 * left)) & 255);
                length++;
            }
            return true;
        }

        void empty() {
            length = 0;
        }

        void rewind() {
            next = 0;
        }

        void readToken() {
            while (next < length && at(bytes, next) == ' ') {
                next++;
            }
            start = next;
            if (next >= length) {
                token = END;
            } else if (isDigit(next)) {
                readNumber();
            } else if (isLetter(next)) {
                readWord();
            } else {
                token = at(bytes, next) == ';' ? STOP : WRONG;
                next++;
            }
        }

        private boolean isDigit(int i) {
            return i < length && at(bytes, i) >= '0' && at(bytes, i) <= '9';
        }

        private boolean isLetter(int i) {
            return i < length && at(bytes, i) >= 'a' && at(bytes, i) <= 'z';
        }

        private void readNumber() {
            value = 0;
            while (next < length && isDigit(next)) {
                // held at 100, or a text full of digits would wrap round to a small number
                value = Math.min(value * 10 + at(bytes, next) - '0', 100);
                next++;
            }
            boolean zeroAhead = at(bytes, start) == '0' && next - start > 1;
            token = value > 99 || zeroAhead ? WRONG : NUMBER;
        }

        private void readWord() {
            while (next < length && isLetter(next)) {
                next++;
            }
            if (spells("dish")) {
                token = DISH;
            } else if (spells("speaker")) {
                token = SPEAKER;
            } else if (spells("noise")) {
                token = NOISE;
            } else if (spells("asker")) {
                token = ASKER;
            } else {
                token = WRONG;
            }
        }

        private boolean spells(String word) {
            if (word == null || next - start != word.length()) {
                return false;
            }
            for (int i = 0; i < word.length(); i++) {
                if (at(bytes, start + i) != word.charAt(i)) {
                    return false;
                }
            }
            return true;
        }
    }

    /** Reads a text's items, and what each of their numbers may be. */
    static final class Reader {
        // A row of four for each item: dish M; speaker P N F U; noise N E S; asker P S.
        private static final int[] LEAST = {0, 0, 0, 0, 0, 0, 0, 0, 0, 1, 0, 0, 0, 1, 0, 0};
        private static final int[] MOST = {7, 0, 0, 0, 7, 9, 23, 23, 9, 12, 11, 0, 7, 9, 0, 0};
        private static final int[] NUMBERS = {1, 4, 3, 2};
        private static final int BEFORE_FAULT = -10;

        private final int[] read = new int[Rows.WIDTH];

        /** How many items the text has, or -10 less its fault; the draft holds them. */
        int readItems(Text text, Valley draft) {
            if (text == null || draft == null) {
                return BEFORE_FAULT;
            }
            text.rewind();
            draft.empty();
            int items = 0;
            text.readToken();
            while (items < MOST_BYTES && text.token != Text.END) {
                if (!readItem(text, draft)) {
                    return BEFORE_FAULT - text.start;
                }
                items++;
                text.readToken();
            }
            return items;
        }

        // Where this fails, the text stands at the token that can't stand there.
        private boolean readItem(Text text, Valley draft) {
            if (text == null || draft == null || text.token > Text.ASKER) {
                return false;
            }
            int item = text.token;
            Rows rows = draft.rowsOf(item);
            if (rows == null || rows.isFull()) {
                return false;
            }
            for (int k = 0; k < at(NUMBERS, item); k++) {
                text.readToken();
                if (text.token != Text.NUMBER || !mayBe(item, k, text.value)) {
                    return false;
                }
                put(read, k, text.value);
            }
            rows.add(at(read, 0), at(read, 1), at(read, 2), at(read, 3));
            text.readToken();
            return text.token == Text.STOP;
        }

        private boolean mayBe(int item, int k, int value) {
            int least = at(LEAST, item * Rows.WIDTH + k);
            int most = at(MOST, item * Rows.WIDTH + k);
            if (item == Text.SPEAKER && k == SPEAKER_TO) {
                least = at(read, SPEAKER_FROM);
            }
            if (item == Text.NOISE && k == NOISE_SINCE) {
                most = at(read, NOISE_EACH) - 1;
            }
            return value >= least && value <= most;
        }
    }
}
