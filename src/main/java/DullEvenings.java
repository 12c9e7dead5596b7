/**
 * Evenings on which the dull are listened to by turns. The document's words stand in capitals
 * in the comments where they are meant.
 */
public final class DullEvenings {
    public static final int BAD = -1, NOT = -2, FULL = -3, NONE = -4, NULL = -11, CAST = -12, INDEX = -13, SIZE = -14;

    private static final int PEOPLE = 5;
    private static final int KINDS = 5;
    private static final int PLAIN = 0, DRONE = 1, TAP = 2, WIT = 3, UMBRELLA = 4;
    private static final int LONGEST = 20;
    private static final int HIGHEST_MOST = 60;
    private static final int LARGEST_STEP = 4;
    private static final int HEARD_AT_MOST = 9;
    private static final int LAST_EVENING = 9999;
    private static final int EVENINGS_A_CALL = 40;

    private static final int FORETOLD = 60;
    private static final int PACED = 40;
    private static final int SEATED = 20;
    private static final int ORDERS = 120;
    private static final int NEEDED_AT_MOST = 99;

    private static final int UNDONE_AT_MOST = 8;
    private static final int TAPE_LETTERS = 70;
    private static final int FAULT = -20;

    private static final int SHEETS = 4;
    private static final int LANES = 4;
    private static final int ITEMS = 24;
    private static final int BORNE_ITEMS = 8;
    private static final int FINE = 0;

    /** What an evening is to a hearer. */
    private static final int ALONE = 0, HEARS = 1, LOOKS = 2;

    private final Shire now;
    private final Past past;
    private final Shire imagedShire;
    private final Past imagedPast;
    private boolean imaged;
    private final Tape tape;
    private final Sheet[] sheets;

    // All that is foretold is tried out on these, so that no call makes an object.
    private final Shire trial;
    private final Tally tried;
    private final Tally best;
    private final Order order;
    private final Order bestOrder;
    private final int[] ways;

    public DullEvenings() {
        now = new Shire();
        past = new Past();
        imagedShire = new Shire();
        imagedPast = new Past();
        tape = new Tape();
        sheets = new Sheet[SHEETS];
        for (int i = 0; i < SHEETS; i++) {
            sheets[i] = new Sheet();
        }
        trial = new Shire();
        tried = new Tally();
        best = new Tally();
        order = new Order();
        bestOrder = new Order();
        ways = new int[PEOPLE + 1];
    }

    // ---- 1 tellers, hearers

    public int teller(int kind, int lasts) {
        if (!within(kind, 0, KINDS - 1) || !within(lasts, 1, LONGEST)) {
            return BAD;
        }
        if (now.tellers >= PEOPLE) {
            return FULL;
        }
        past.forget();
        return now.addTeller(kind, lasts);
    }

    public int hearer(int most) {
        if (!within(most, 1, HIGHEST_MOST)) {
            return BAD;
        }
        if (now.hearers >= PEOPLE) {
            return FULL;
        }
        past.forget();
        return now.addHearer(most);
    }

    public int of(int teller, int what) {
        if (!isTeller(teller)) {
            return BAD;
        }
        int hearer = now.hearerOf(teller);
        switch (what) {
            case 0:
                return now.kind[teller];
            case 1:
                return now.lasts[teller];
            case 2:
                return now.seatOf(teller);
            case 3:
                return hearer;
            case 4:
                return hearer == NONE ? 0 : now.costFor(hearer, teller);
            default:
                return BAD;
        }
    }

    public int at(int hearer, int what) {
        if (!isHearer(hearer)) {
            return BAD;
        }
        switch (what) {
            case 0:
                return now.most[hearer];
            case 1:
                return now.bears[hearer];
            case 2:
                return now.looked[hearer];
            case 3:
                return now.tellerOf(hearer);
            case 4:
                return now.heardBy(hearer);
            default:
                return BAD;
        }
    }

    public int heard(int hearer, int teller) {
        if (!isHearer(hearer) || !isTeller(teller)) {
            return BAD;
        }
        return now.timesHeard(hearer, teller);
    }

    public int type(int letter) {
        if (!within(letter, ' ', '~')) {
            return BAD;
        }
        return tape.append((char) letter);
    }

    public int list() {
        trial.become(now);
        trial.empty();
        boolean isList = tape.readList(trial);
        int fault = FAULT - tape.place;
        tape.wipe();
        if (!isList) {
            return fault;
        }
        now.become(trial);
        past.forget();
        return now.hearers;
    }

    public int count(int what) {
        switch (what) {
            case 0:
                return now.tellers;
            case 1:
                return now.hearers;
            case 2:
                return now.seats;
            case 3:
                return now.evening;
            case 4:
                return now.turn;
            case 5:
                return now.step;
            case 6:
                return now.heardInAll();
            case 7:
                return now.lookedInAll();
            case 8:
                return past.size;
            default:
                return BAD;
        }
    }

    // ---- what is done

    public int evenings(int n) {
        int refusal = refuseEvenings(n);
        if (refusal != FINE) {
            return refusal;
        }
        tried.clear();
        for (int i = 0; i < n; i++) {
            past.note(now);
            now.passEvening(NONE, tried);
        }
        return tried.looks;
    }

    public int rest(int hearer, int n) {
        if (!isHearer(hearer) || !within(n, 1, HIGHEST_MOST)) {
            return BAD;
        }
        if (now.bears[hearer] == now.most[hearer]) {
            return NOT;
        }
        past.note(now);
        now.relieve(hearer, n);
        return now.bears[hearer];
    }

    public int spin(int teller, int n) {
        if (!isTeller(teller) || !within(n, 1, LONGEST)) {
            return BAD;
        }
        if (now.lasts[teller] == LONGEST) {
            return NOT;
        }
        past.note(now);
        now.lasts[teller] = Math.min(LONGEST, now.lasts[teller] + n);
        return now.lasts[teller];
    }

    public int step(int v) {
        if (!within(v, 0, LARGEST_STEP)) {
            return BAD;
        }
        int before = now.step;
        if (v == before) {
            return NOT;
        }
        past.note(now);
        now.step = v;
        return before;
    }

    public int turn(int v) {
        if (!within(v, 0, now.seats - 1)) {
            return BAD;
        }
        int before = now.turn;
        if (v == before) {
            return NOT;
        }
        past.note(now);
        now.turn = v;
        return before;
    }

    public int drift(int n) {
        int refusal = refuseEvenings(n);
        if (refusal != FINE) {
            return refusal;
        }
        tried.clear();
        for (int i = 0; i < n; i++) {
            past.note(now);
            now.drawRest();
            now.passEvening(NONE, tried);
        }
        return tried.looks;
    }

    public int undo() {
        return past.takeBack(now) ? past.size : NONE;
    }

    public int seed(int v) {
        if (v < 0) {
            return BAD;
        }
        int before = now.draw;
        now.draw = v;
        return before;
    }

    // ---- 2 foretold

    public int ahead(int hearer, int n, int what) {
        if (!isHearer(hearer) || !within(n, 0, FORETOLD) || !within(what, 0, 2)) {
            return BAD;
        }
        foretell(hearer, n);
        switch (what) {
            case 0:
                return trial.bears[hearer];
            case 1:
                return trial.looked[hearer];
            default:
                return trial.tellerOf(hearer);
        }
    }

    public int then(int hearer, int teller, int n) {
        if (!isHearer(hearer) || !isTeller(teller) || !within(n, 0, FORETOLD)) {
            return BAD;
        }
        foretell(hearer, n);
        return trial.timesHeard(hearer, teller);
    }

    public int first(int hearer) {
        if (!isHearer(hearer)) {
            return BAD;
        }
        trial.become(now);
        int evening = firstLook(hearer, FORETOLD);
        return evening == 0 ? NONE : evening;
    }

    public int all() {
        trial.become(now);
        tried.clear();
        for (int n = 0; n <= FORETOLD; n++) {
            if (trial.allHeardAll()) {
                return n;
            }
            trial.passEvening(NONE, tried);
        }
        return NONE;
    }

    public int left(int hearer, int n) {
        if (!isHearer(hearer) || !within(n, 0, FORETOLD)) {
            return BAD;
        }
        foretell(hearer, n);
        int allTellers = (1 << now.tellers) - 1;
        return allTellers & ~trial.heardBy(hearer);
    }

    public int pace(int n, int what) {
        if (!within(n, 1, PACED) || !within(what, 0, 2)) {
            return BAD;
        }
        int bestStep = findPace(n);
        switch (what) {
            case 0:
                return bestStep;
            case 1:
                return best.heard;
            default:
                return best.looks;
        }
    }

    public int seating(int n, int k) {
        if (!within(n, 1, SEATED) || k < -1) {
            return BAD;
        }
        if (k >= now.tellers) {
            return NONE;
        }
        findSeating(n);
        return k < 0 ? best.heard : bestOrder.tellers[k];
    }

    public int needs(int hearer, int n) {
        if (!isHearer(hearer) || !within(n, 1, PACED)) {
            return BAD;
        }
        for (int b = 0; b <= NEEDED_AT_MOST; b++) {
            trial.become(now);
            trial.bears[hearer] = b;
            trial.most[hearer] = Math.max(now.most[hearer], b);
            if (firstLook(hearer, n) == 0) {
                return b;
            }
        }
        return NONE;
    }

    public int spare(int what) {
        if (!within(what, 0, 1)) {
            return BAD;
        }
        int who = NONE;
        int fewest = NONE;
        for (int h = 0; h < now.hearers; h++) {
            int looks = looksWithout(h);
            if (who == NONE || looks < fewest) {
                who = h;
                fewest = looks;
            }
        }
        return what == 0 ? who : fewest;
    }

    public int doze(int m, int c, int what) {
        if (!within(m, 0, PEOPLE) || !within(c, 0, 10) || !within(what, 0, 1)) {
            return BAD;
        }
        int below = weighLooks(c);
        int above = 0;
        for (int looks = m; looks <= PEOPLE; looks++) {
            above += ways[looks];
        }
        int common = greatestCommonDivisor(below, above);
        int part = what == 0 ? above : below;
        return common > 1 ? part / common : part;
    }

    public int image() {
        imagedShire.become(now);
        imagedPast.become(past);
        imaged = true;
        return 1;
    }

    public int restore() {
        if (!imaged) {
            return NONE;
        }
        now.become(imagedShire);
        past.become(imagedPast);
        return 1;
    }

    // ---- 3 sheets

    public int borne(int hearer, int teller, int sheet, int lane, int i, int n, int what) {
        if (!isHearer(hearer) || !isTeller(teller) || !isSheet(sheet) || !isLane(lane)) {
            return BAD;
        }
        if (!within(n, 1, BORNE_ITEMS) || !within(what, 0, 2)) {
            return BAD;
        }
        Sheet row = sheets[sheet];
        int refusal = row.refuse(lane, i, n);
        if (refusal != FINE) {
            return refusal;
        }
        int lowest = what == 1 ? 1 : 0;
        int highest = what == 0 ? KINDS - 1 : what == 1 ? LONGEST : LARGEST_STEP;
        int set = 0;
        for (int guess = lowest; guess <= highest; guess++) {
            trial.become(now);
            trial.suppose(what, teller, guess);
            if (bearsAsTold(hearer, row, i, n)) {
                set |= 1 << guess;
            }
        }
        return set;
    }

    public int film(int hearer, int n, int sheet, int lane, int i) {
        if (!isHearer(hearer) || !within(n, 1, ITEMS) || !isSheet(sheet) || !isLane(lane)) {
            return BAD;
        }
        Sheet row = sheets[sheet];
        int refusal = row.refuse(lane, i, n);
        if (refusal != FINE) {
            return refusal;
        }
        trial.become(now);
        for (int k = 0; k < n; k++) {
            trial.passEveningOf(hearer);
            row.put(i + k, trial.bears[hearer]);
        }
        return n;
    }

    public int sheet(int sheet, int lane, int n) {
        if (!isSheet(sheet) || !isLane(lane) || n > ITEMS) {
            return BAD;
        }
        if (n < 0) {
            return SIZE;
        }
        sheets[sheet].begin(lane, n);
        return n;
    }

    public int drop(int sheet) {
        if (!isSheet(sheet)) {
            return BAD;
        }
        Sheet row = sheets[sheet];
        if (row.holdsNothing()) {
            return NULL;
        }
        int had = row.size;
        row.end();
        return had;
    }

    public int item(int sheet, int lane, int i, long v) {
        if (!isSheet(sheet) || !isLane(lane)) {
            return BAD;
        }
        Sheet row = sheets[sheet];
        int refusal = row.refuse(lane, i, 1);
        if (refusal != FINE) {
            return refusal;
        }
        row.put(i, v);
        return 1;
    }

    public int copy(int from, int i, int to, int j, int n) {
        if (!isSheet(from) || !isSheet(to)) {
            return BAD;
        }
        Sheet source = sheets[from];
        Sheet target = sheets[to];
        if (source.holdsNothing() || target.holdsNothing()) {
            return NULL;
        }
        if (source.lane != target.lane) {
            return CAST;
        }
        if (!source.spans(i, n) || !target.spans(j, n)) {
            return INDEX;
        }
        System.arraycopy(source.items, i, target.items, j, n);
        return n;
    }

    // ---- what arguments may be

    private static boolean within(int v, int lowest, int highest) {
        return v >= lowest && v <= highest;
    }

    private boolean isTeller(int t) {
        return t >= 0 && t < now.tellers;
    }

    private boolean isHearer(int h) {
        return h >= 0 && h < now.hearers;
    }

    private static boolean isSheet(int s) {
        return s >= 0 && s < SHEETS;
    }

    private static boolean isLane(int lane) {
        return lane >= 0 && lane < LANES;
    }

    private int refuseEvenings(int n) {
        if (!within(n, 1, EVENINGS_A_CALL)) {
            return BAD;
        }
        return now.evening + n > LAST_EVENING ? FULL : FINE;
    }

    // ---- what is tried out

    /** Only this hearer's evenings pass: what one bears and hears hangs on nobody else. */
    private void foretell(int hearer, int n) {
        trial.become(now);
        for (int i = 0; i < n; i++) {
            trial.passEveningOf(hearer);
        }
    }

    /** The first of n evenings of the trial, from 1 on, in which a hearer looks; 0: in none. */
    private int firstLook(int hearer, int n) {
        for (int evening = 1; evening <= n; evening++) {
            if (trial.passEveningOf(hearer) == LOOKS) {
                return evening;
            }
        }
        return 0;
    }

    private boolean bearsAsTold(int hearer, Sheet row, int i, int n) {
        for (int k = 0; k < n; k++) {
            trial.passEveningOf(hearer);
            if (row.items[i + k] != trial.bears[hearer]) {
                return false;
            }
        }
        return true;
    }

    private void tryEvenings(int n) {
        tried.clear();
        for (int i = 0; i < n; i++) {
            trial.passEvening(NONE, tried);
        }
    }

    private int findPace(int n) {
        int bestStep = 0;
        for (int v = 0; v <= LARGEST_STEP; v++) {
            trial.become(now);
            trial.step = v;
            tryEvenings(n);
            if (v == 0 || tried.beats(best)) {
                best.become(tried);
                bestStep = v;
            }
        }
        return bestStep;
    }

    private void findSeating(int n) {
        order.begin(now.tellers);
        for (int i = 0; i < ORDERS; i++) {
            trial.become(now);
            trial.seatBy(order, now);
            tryEvenings(n);
            if (i == 0 || tried.beats(best)) {
                best.become(tried);
                bestOrder.become(order);
            }
            if (!order.advance()) {
                return;
            }
        }
    }

    private int looksWithout(int hearer) {
        trial.become(now);
        tried.clear();
        trial.passEvening(hearer, tried);
        trial.passEvening(NONE, tried);
        return tried.looks;
    }

    // ---- the odds of dozing

    /** Puts into ways in how many of the answered number of like cases so many look. */
    private int weighLooks(int c) {
        for (int looks = 0; looks <= PEOPLE; looks++) {
            ways[looks] = looks == 0 ? 1 : 0;
        }
        int cases = 1;
        for (int h = 0; h < now.hearers; h++) {
            int t = now.tellerOf(h);
            if (t != NONE) {
                addHearerToWays(looksOfTen(now.costFor(h, t), now.bears[h], c));
                cases *= 10;
            }
        }
        return cases;
    }

    private static int looksOfTen(int cost, int bears, int c) {
        int awake = cost > bears ? 10 - c : 0;
        int dozing = cost / 2 > bears ? c : 0;
        return awake + dozing;
    }

    private void addHearerToWays(int ofTen) {
        for (int looks = PEOPLE; looks >= 0; looks--) {
            int others = looks == 0 ? 0 : ways[looks - 1];
            ways[looks] = ways[looks] * (10 - ofTen) + others * ofTen;
        }
    }

    private static int greatestCommonDivisor(int a, int b) {
        int larger = a;
        int smaller = b;
        // Each two rounds halve an int at least, so that 64 rounds are plenty.
        for (int i = 0; i < 64 && smaller != 0; i++) {
            int over = larger % smaller;
            larger = smaller;
            smaller = over;
        }
        return larger;
    }

    /** All that an EVENING may change, and who there is. */
    private static final class Shire {
        int tellers;
        int hearers;
        int seats;
        int turn;
        int step;
        int evening;
        int draw;
        final int[] kind;
        final int[] lasts;
        final int[] most;
        final int[] bears;
        final int[] looked;
        final int[] times;

        Shire() {
            step = 1;
            draw = 1;
            kind = new int[PEOPLE];
            lasts = new int[PEOPLE];
            most = new int[PEOPLE];
            bears = new int[PEOPLE];
            looked = new int[PEOPLE];
            times = new int[PEOPLE * PEOPLE];
        }

        void become(Shire other) {
            tellers = other.tellers;
            hearers = other.hearers;
            seats = other.seats;
            turn = other.turn;
            step = other.step;
            evening = other.evening;
            draw = other.draw;
            System.arraycopy(other.kind, 0, kind, 0, PEOPLE);
            System.arraycopy(other.lasts, 0, lasts, 0, PEOPLE);
            System.arraycopy(other.most, 0, most, 0, PEOPLE);
            System.arraycopy(other.bears, 0, bears, 0, PEOPLE);
            System.arraycopy(other.looked, 0, looked, 0, PEOPLE);
            System.arraycopy(other.times, 0, times, 0, PEOPLE * PEOPLE);
        }

        /** Nobody is there and nothing has been; THE DRAW stays, as a LIST wants it. */
        void empty() {
            tellers = 0;
            hearers = 0;
            seats = 0;
            turn = 0;
            step = 1;
            evening = 0;
            for (int h = 0; h < PEOPLE; h++) {
                looked[h] = 0;
            }
            for (int i = 0; i < PEOPLE * PEOPLE; i++) {
                times[i] = 0;
            }
        }

        int addTeller(int ofKind, int lasting) {
            if (tellers >= PEOPLE) {
                return FULL;
            }
            int t = tellers;
            kind[t] = ofKind;
            lasts[t] = lasting;
            tellers++;
            seats = Math.max(tellers, hearers);
            turn = 0;
            return t;
        }

        int addHearer(int bearing) {
            if (hearers >= PEOPLE) {
                return FULL;
            }
            int h = hearers;
            most[h] = bearing;
            bears[h] = bearing;
            hearers++;
            seats = Math.max(tellers, hearers);
            turn = 0;
            return h;
        }

        private int leftOverBySeats(int v) {
            return seats == 0 ? 0 : v % seats;
        }

        int seatOf(int t) {
            return leftOverBySeats(t + turn);
        }

        int hearerOf(int t) {
            int seat = seatOf(t);
            return seat < hearers ? seat : NONE;
        }

        int tellerOf(int h) {
            int t = leftOverBySeats(h + seats - turn);
            return t < tellers ? t : NONE;
        }

        int timesHeard(int h, int t) {
            return times[h * PEOPLE + t];
        }

        int heardBy(int h) {
            int set = 0;
            for (int t = 0; t < tellers; t++) {
                if (timesHeard(h, t) > 0) {
                    set |= 1 << t;
                }
            }
            return set;
        }

        boolean allHeardAll() {
            int allTellers = (1 << tellers) - 1;
            for (int h = 0; h < hearers; h++) {
                if (heardBy(h) != allTellers) {
                    return false;
                }
            }
            return true;
        }

        int heardInAll() {
            int sum = 0;
            for (int i = 0; i < PEOPLE * PEOPLE; i++) {
                sum += times[i];
            }
            return sum;
        }

        int lookedInAll() {
            int sum = 0;
            for (int h = 0; h < hearers; h++) {
                sum += looked[h];
            }
            return sum;
        }

        int costFor(int h, int t) {
            int plain = lasts[t];
            int drone = plain + timesHeard(h, t);
            int tap = evening % 2 == 1 ? plain / 2 : plain;
            switch (kind[t]) {
                case DRONE:
                    return drone;
                case TAP:
                    return tap;
                case WIT:
                    return timesHeard(h, t) == 0 ? Math.max(0, drone - 4) : drone;
                case UMBRELLA:
                    return bears[h] <= 9 ? tap + 3 : tap;
                case PLAIN:
                default:
                    return plain;
            }
        }

        /** A hearer's part of the EVENING: ALONE, HEARS or LOOKS. */
        private int sitThrough(int h) {
            int t = tellerOf(h);
            if (t == NONE) {
                relieve(h, 5);
                return ALONE;
            }
            int cost = costFor(h, t);
            if (cost > bears[h]) {
                looked[h]++;
                bears[h] = 0;
                return LOOKS;
            }
            bears[h] -= cost;
            times[h * PEOPLE + t] = Math.min(HEARD_AT_MOST, timesHeard(h, t) + 1);
            return HEARS;
        }

        private void goOn() {
            turn = leftOverBySeats(turn + step);
            evening++;
        }

        /** An EVENING of all but one, who may be NONE. */
        void passEvening(int absent, Tally tally) {
            for (int h = 0; h < hearers; h++) {
                if (h != absent) {
                    tally.note(sitThrough(h));
                }
            }
            goOn();
        }

        /** An EVENING that passes for one hearer alone; what the others are is right no more. */
        int passEveningOf(int h) {
            int outcome = sitThrough(h);
            goOn();
            return outcome;
        }

        void relieve(int h, int n) {
            bears[h] = Math.min(most[h], bears[h] + n);
        }

        /** What goes ahead of each EVENING of a DRIFT. */
        void drawRest() {
            draw = (int) ((draw * 1103515245L + 12345L) & 0x7fffffffL);
            if (hearers > 0) {
                relieve(draw / 65536 % hearers, draw / 128 % 6);
            }
        }

        /** A teller's kind (what 0), his tale's length (1) or the step (2) is as guessed. */
        void suppose(int what, int t, int guess) {
            if (what == 0) {
                kind[t] = guess;
            } else if (what == 1) {
                lasts[t] = guess;
            } else {
                step = guess;
            }
        }

        /** Tellers sit in another order, each with how often he was heard. */
        void seatBy(Order order, Shire from) {
            for (int k = 0; k < tellers; k++) {
                int t = order.tellers[k];
                kind[k] = from.kind[t];
                lasts[k] = from.lasts[t];
                for (int h = 0; h < hearers; h++) {
                    times[h * PEOPLE + k] = from.timesHeard(h, t);
                }
            }
        }
    }

    /** What was ahead of the latest things done, a ring of as many as may be UNDONE. */
    private static final class Past {
        private final Shire[] ring;
        private int next;
        int size;

        Past() {
            ring = new Shire[UNDONE_AT_MOST];
            for (int i = 0; i < UNDONE_AT_MOST; i++) {
                ring[i] = new Shire();
            }
        }

        void note(Shire shire) {
            ring[next].become(shire);
            next = (next + 1) % UNDONE_AT_MOST;
            size = Math.min(UNDONE_AT_MOST, size + 1);
        }

        boolean takeBack(Shire shire) {
            if (size == 0) {
                return false;
            }
            next = (next + UNDONE_AT_MOST - 1) % UNDONE_AT_MOST;
            size--;
            shire.become(ring[next]);
            return true;
        }

        void forget() {
            size = 0;
        }

        void become(Past other) {
            next = other.next;
            size = other.size;
            for (int i = 0; i < UNDONE_AT_MOST; i++) {
                ring[i].become(other.ring[i]);
            }
        }
    }

    /** How often tales are heard, and the clock is looked at, in some evenings. */
    private static final class Tally {
        int heard;
        int looks;

        void clear() {
            heard = 0;
            looks = 0;
        }

        void note(int outcome) {
            if (outcome == HEARS) {
                heard++;
            } else if (outcome == LOOKS) {
                looks++;
            }
        }

        boolean beats(Tally other) {
            return heard > other.heard || heard == other.heard && looks < other.looks;
        }

        void become(Tally other) {
            heard = other.heard;
            looks = other.looks;
        }
    }

    /** An order of tellers; they are gone through by numbers, rising. */
    private static final class Order {
        final int[] tellers;
        private int size;

        Order() {
            tellers = new int[PEOPLE];
        }

        void begin(int n) {
            size = Math.min(PEOPLE, n);
            for (int k = 0; k < size; k++) {
                tellers[k] = k;
            }
        }

        void become(Order other) {
            size = other.size;
            System.arraycopy(other.tellers, 0, tellers, 0, PEOPLE);
        }

        /** The next order stands then; false: there is none behind this one. */
        boolean advance() {
            int rising = size - 2;
            while (rising >= 0 && tellers[rising] > tellers[rising + 1]) {
                rising--;
            }
            if (rising < 0) {
                return false;
            }
            int larger = size - 1;
            while (larger > rising && tellers[larger] < tellers[rising]) {
                larger--;
            }
            swap(rising, larger);
            int low = rising + 1;
            for (int high = size - 1; low < high; high--) {
                swap(low, high);
                low++;
            }
            return true;
        }

        private void swap(int i, int j) {
            int kept = tellers[i];
            tellers[i] = tellers[j];
            tellers[j] = kept;
        }
    }

    /** THE TAPE, and how a LIST is read off it. */
    private static final class Tape {
        private static final String KIND_LETTERS = "pdtwu";
        private static final char END = 0;

        private final char[] letters;
        private int size;
        /** Where reading stands; behind a fault, the place of the fault. */
        int place;

        Tape() {
            letters = new char[TAPE_LETTERS];
        }

        int append(char letter) {
            if (size >= TAPE_LETTERS) {
                return FULL;
            }
            letters[size] = letter;
            size++;
            return size;
        }

        void wipe() {
            size = 0;
        }

        /** Reads the whole tape into an empty shire; false: a fault, at place. */
        boolean readList(Shire shire) {
            place = 0;
            return readHearers(shire) && readTellers(shire) && readStep(shire) && nextLetter() == END;
        }

        private boolean readHearers(Shire shire) {
            for (int i = 0; i < PEOPLE; i++) {
                if (i > 0 && !passLetter(',')) {
                    break;
                }
                if (!readHearer(shire)) {
                    return false;
                }
            }
            return passLetter(';');
        }

        private boolean readHearer(Shire shire) {
            int most = readNumber(1, HIGHEST_MOST);
            if (most == NONE) {
                return false;
            }
            int less = passLetter('-') ? readNumber(0, most) : 0;
            if (less == NONE) {
                return false;
            }
            int h = shire.addHearer(most);
            if (h == FULL) {
                return false;
            }
            shire.bears[h] = most - less;
            return true;
        }

        private boolean readTellers(Shire shire) {
            for (int i = 0; i < PEOPLE; i++) {
                if (i > 0 && !passLetter(',')) {
                    break;
                }
                if (!readTeller(shire)) {
                    return false;
                }
            }
            return true;
        }

        private boolean readTeller(Shire shire) {
            int kind = KIND_LETTERS.indexOf(nextLetter());
            if (kind < 0) {
                return false;
            }
            place++;
            int lasts = readNumber(1, LONGEST);
            return lasts != NONE && shire.addTeller(kind, lasts) != FULL;
        }

        private boolean readStep(Shire shire) {
            if (!passLetter('!')) {
                return true;
            }
            char digit = nextLetter();
            if (digit < '0' || digit > '0' + LARGEST_STEP) {
                return false;
            }
            shire.step = digit - '0';
            place++;
            return true;
        }

        /** A number of at most two digits; NONE: a fault, at place. */
        private int readNumber(int lowest, int highest) {
            if (!isDigit(nextLetter())) {
                return NONE;
            }
            int start = place;
            int number = letters[start] - '0';
            place++;
            if (place < size && isDigit(letters[place])) {
                number = number * 10 + (letters[place] - '0');
                place++;
            }
            if (!within(number, lowest, highest)) {
                place = start;
                return NONE;
            }
            return number;
        }

        /** Goes behind a letter, if it is the next one. */
        private boolean passLetter(char letter) {
            if (nextLetter() != letter) {
                return false;
            }
            place++;
            return true;
        }

        /** Goes to the next letter that is no blank, or to the end. */
        private char nextLetter() {
            while (place < size && letters[place] == ' ') {
                place++;
            }
            return place < size ? letters[place] : END;
        }

        private static boolean isDigit(char letter) {
            return letter >= '0' && letter <= '9';
        }
    }

    /** A SHEET: nothing, or a row whose items are held as longs that a LANE's items can be. */
    private static final class Sheet {
        private static final int NOTHING = -1;

        int lane;
        int size;
        final long[] items;

        Sheet() {
            lane = NOTHING;
            items = new long[ITEMS];
        }

        void begin(int ofLane, int n) {
            lane = ofLane;
            size = n;
            for (int i = 0; i < ITEMS; i++) {
                items[i] = 0;
            }
        }

        void end() {
            lane = NOTHING;
            size = 0;
        }

        boolean holdsNothing() {
            return lane == NOTHING;
        }

        boolean spans(int i, int n) {
            return i >= 0 && n >= 0 && i <= size - n;
        }

        /** What is found, if n items from i on are taken as those of a lane. */
        int refuse(int ofLane, int i, int n) {
            if (holdsNothing()) {
                return NULL;
            }
            if (lane != ofLane) {
                return CAST;
            }
            return spans(i, n) ? FINE : INDEX;
        }

        void put(int i, long v) {
            items[i] = lowestBits(v);
        }

        private long lowestBits(long v) {
            switch (lane) {
                case 0:
                    return (byte) v;
                case 1:
                    return (short) v;
                case 2:
                    return (int) v;
                default:
                    return v;
            }
        }
    }
}
