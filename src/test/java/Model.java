import java.util.ArrayDeque;
import java.util.ArrayList;
import java.util.Arrays;
import java.util.Deque;
import java.util.List;

/**
 * The document told once more, slowly and in another way: kinds as classes, whole copies in
 * place of what is reckoned for one hearer, tokens in place of letters. ModelTest holds the
 * class against it.
 */
final class Model {
    static final int BAD = -1, NOT = -2, FULL = -3, NONE = -4, NULL = -11, CAST = -12, INDEX = -13, SIZE = -14;

    static class Teller {
        final int kind;
        final int lasts;

        Teller(int kind, int lasts) {
            this.kind = kind;
            this.lasts = lasts;
        }

        int cost(Hearer hearer, int number, int evening) {
            return lasts;
        }

        static Teller make(int kind, int lasts) {
            return switch (kind) {
                case 0 -> new Teller(kind, lasts);
                case 1 -> new Drone(kind, lasts);
                case 2 -> new Tap(kind, lasts);
                case 3 -> new Wit(kind, lasts);
                default -> new Umbrella(kind, lasts);
            };
        }
    }

    static class Drone extends Teller {
        Drone(int kind, int lasts) {
            super(kind, lasts);
        }

        @Override
        int cost(Hearer hearer, int number, int evening) {
            return super.cost(hearer, number, evening) + hearer.heard[number];
        }
    }

    static class Tap extends Teller {
        Tap(int kind, int lasts) {
            super(kind, lasts);
        }

        @Override
        int cost(Hearer hearer, int number, int evening) {
            int plain = super.cost(hearer, number, evening);
            return (evening & 1) != 0 ? plain >> 1 : plain;
        }
    }

    static final class Wit extends Drone {
        Wit(int kind, int lasts) {
            super(kind, lasts);
        }

        @Override
        int cost(Hearer hearer, int number, int evening) {
            int drone = super.cost(hearer, number, evening);
            return hearer.heard[number] > 0 ? drone : Math.max(drone - 4, 0);
        }
    }

    static final class Umbrella extends Tap {
        Umbrella(int kind, int lasts) {
            super(kind, lasts);
        }

        @Override
        int cost(Hearer hearer, int number, int evening) {
            return super.cost(hearer, number, evening) + (hearer.bears < 10 ? 3 : 0);
        }
    }

    static final class Hearer {
        int most;
        int bears;
        int looked;
        int[] heard = new int[5];

        Hearer duplicate() {
            Hearer h = new Hearer();
            h.most = most;
            h.bears = bears;
            h.looked = looked;
            h.heard = heard.clone();
            return h;
        }

        void rest(int n) {
            bears = Math.min(bears + n, most);
        }
    }

    /** All that is kept in an image but what may be undone; places[k] is who sits as the k-th. */
    static final class World {
        List<Teller> tellers = new ArrayList<>();
        List<Hearer> hearers = new ArrayList<>();
        int[] places = {0, 1, 2, 3, 4};
        int turn;
        int step = 1;
        int evening;
        long draw = 1;

        World duplicate() {
            World w = new World();
            w.tellers.addAll(tellers);
            for (Hearer h : hearers) {
                w.hearers.add(h.duplicate());
            }
            w.turn = turn;
            w.step = step;
            w.evening = evening;
            w.draw = draw;
            return w;
        }

        int seats() {
            return Math.max(tellers.size(), hearers.size());
        }

        int tellerFor(int hearer) {
            for (int k = 0; k < tellers.size(); k++) {
                if ((k + turn) % seats() == hearer) {
                    return places[k];
                }
            }
            return NONE;
        }

        int cost(int hearer, int teller) {
            return tellers.get(teller).cost(hearers.get(hearer), teller, evening);
        }

        /** An evening without one: who heard (bits from 0) and who looked (bits from 8). */
        int pass(int absent) {
            int seen = 0;
            for (int h = 0; h < hearers.size(); h++) {
                if (h == absent) {
                    continue;
                }
                Hearer hearer = hearers.get(h);
                int teller = tellerFor(h);
                if (teller == NONE) {
                    hearer.rest(5);
                } else if (cost(h, teller) <= hearer.bears) {
                    hearer.bears -= cost(h, teller);
                    hearer.heard[teller] = Math.min(9, hearer.heard[teller] + 1);
                    seen |= 1 << h;
                } else {
                    hearer.looked++;
                    hearer.bears = 0;
                    seen |= 256 << h;
                }
            }
            turn = seats() == 0 ? 0 : (turn + step) % seats();
            evening++;
            return seen;
        }

        World behind(int n) {
            World w = duplicate();
            w.places = places.clone();
            for (int i = 0; i < n; i++) {
                w.pass(NONE);
            }
            return w;
        }

        /** How much is heard, and how many look, in n evenings from here. */
        int[] tally(int n) {
            World w = duplicate();
            w.places = places.clone();
            int[] sums = new int[2];
            for (int i = 0; i < n; i++) {
                int seen = w.pass(NONE);
                sums[0] += Integer.bitCount(seen & 255);
                sums[1] += Integer.bitCount(seen >> 8);
            }
            return sums;
        }

        int neverHeard(int hearer) {
            int set = 0;
            for (int t = 0; t < tellers.size(); t++) {
                set |= hearers.get(hearer).heard[t] == 0 ? 1 << t : 0;
            }
            return set;
        }
    }

    World world = new World();
    Deque<World> past = new ArrayDeque<>();
    World imagedWorld;
    List<World> imagedPast;
    StringBuilder tape = new StringBuilder();
    Object[] sheets = new Object[4];

    // ---- 1

    int teller(int kind, int lasts) {
        if (kind < 0 || kind > 4 || lasts < 1 || lasts > 20) {
            return BAD;
        }
        if (world.tellers.size() == 5) {
            return FULL;
        }
        world.tellers.add(Teller.make(kind, lasts));
        world.turn = 0;
        past.clear();
        return world.tellers.size() - 1;
    }

    int hearer(int most) {
        if (most < 1 || most > 60) {
            return BAD;
        }
        if (world.hearers.size() == 5) {
            return FULL;
        }
        Hearer h = new Hearer();
        h.most = most;
        h.bears = most;
        world.hearers.add(h);
        world.turn = 0;
        past.clear();
        return world.hearers.size() - 1;
    }

    private boolean noTeller(int t) {
        return t < 0 || t >= world.tellers.size();
    }

    private boolean noHearer(int h) {
        return h < 0 || h >= world.hearers.size();
    }

    int of(int t, int what) {
        if (noTeller(t) || what < 0 || what > 4) {
            return BAD;
        }
        int seat = (t + world.turn) % world.seats();
        boolean nobody = seat >= world.hearers.size();
        return switch (what) {
            case 0 -> world.tellers.get(t).kind;
            case 1 -> world.tellers.get(t).lasts;
            case 2 -> seat;
            case 3 -> nobody ? NONE : seat;
            default -> nobody ? 0 : world.cost(seat, t);
        };
    }

    int at(int h, int what) {
        if (noHearer(h) || what < 0 || what > 4) {
            return BAD;
        }
        Hearer hearer = world.hearers.get(h);
        return switch (what) {
            case 0 -> hearer.most;
            case 1 -> hearer.bears;
            case 2 -> hearer.looked;
            case 3 -> world.tellerFor(h);
            default -> ((1 << world.tellers.size()) - 1) ^ world.neverHeard(h);
        };
    }

    int heard(int h, int t) {
        return noHearer(h) || noTeller(t) ? BAD : world.hearers.get(h).heard[t];
    }

    int type(int letter) {
        if (letter < 32 || letter > 126) {
            return BAD;
        }
        if (tape.length() == 70) {
            return FULL;
        }
        tape.append((char) letter);
        return tape.length();
    }

    int list() {
        String text = tape.toString();
        tape.setLength(0);
        World told = new World();
        told.draw = world.draw;
        int place = new Tokens(text).fault(told);
        if (place >= 0) {
            return -20 - place;
        }
        world = told;
        past.clear();
        return world.hearers.size();
    }

    /** A text cut into numbers of at most two digits and other letters, each with its place. */
    static final class Tokens {
        final List<int[]> tokens = new ArrayList<>();
        int next;

        Tokens(String text) {
            int i = 0;
            while (i < text.length()) {
                char c = text.charAt(i);
                if (c == ' ') {
                    i++;
                } else if (Character.isDigit(c)) {
                    boolean two = i + 1 < text.length() && Character.isDigit(text.charAt(i + 1));
                    boolean isStep = !tokens.isEmpty() && tokens.get(tokens.size() - 1)[1] == '!';
                    int end = two && !isStep ? i + 2 : i + 1;
                    tokens.add(new int[] {i, '0', Integer.parseInt(text.substring(i, end))});
                    i = end;
                } else {
                    tokens.add(new int[] {i, c, 0});
                    i++;
                }
            }
            tokens.add(new int[] {text.length(), 0, 0});
        }

        boolean is(int c) {
            return tokens.get(next)[1] == c;
        }

        boolean isNumber(int low, int high) {
            return is('0') && tokens.get(next)[2] >= low && tokens.get(next)[2] <= high;
        }

        int take() {
            return tokens.get(next++)[2];
        }

        int here() {
            return tokens.get(next)[0];
        }

        int fault(World w) {
            do {
                if (!w.hearers.isEmpty()) {
                    next++;
                }
                Hearer h = new Hearer();
                if (!isNumber(1, 60)) {
                    return here();
                }
                h.most = take();
                h.bears = h.most;
                if (is('-')) {
                    next++;
                    if (!isNumber(0, h.most)) {
                        return here();
                    }
                    h.bears -= take();
                }
                w.hearers.add(h);
            } while (is(',') && w.hearers.size() < 5);
            if (!is(';')) {
                return here();
            }
            do {
                next++;
                int kind = "pdtwu".indexOf(tokens.get(next)[1]);
                if (kind < 0) {
                    return here();
                }
                next++;
                if (!isNumber(1, 20)) {
                    return here();
                }
                w.tellers.add(Teller.make(kind, take()));
            } while (is(',') && w.tellers.size() < 5);
            if (is('!')) {
                next++;
                if (!isNumber(0, 4)) {
                    return here();
                }
                w.step = take();
            }
            return is(0) ? -1 : here();
        }
    }

    int count(int what) {
        int heard = 0;
        int looked = 0;
        for (Hearer h : world.hearers) {
            heard += Arrays.stream(h.heard).sum();
            looked += h.looked;
        }
        return switch (what) {
            case 0 -> world.tellers.size();
            case 1 -> world.hearers.size();
            case 2 -> world.seats();
            case 3 -> world.evening;
            case 4 -> world.turn;
            case 5 -> world.step;
            case 6 -> heard;
            case 7 -> looked;
            case 8 -> past.size();
            default -> BAD;
        };
    }

    // ---- what is done

    private void remember() {
        past.addLast(world.duplicate());
        if (past.size() > 8) {
            past.removeFirst();
        }
    }

    private int pass(int n, boolean drifting) {
        if (n < 1 || n > 40) {
            return BAD;
        }
        if (world.evening + n > 9999) {
            return FULL;
        }
        int looks = 0;
        for (int i = 0; i < n; i++) {
            remember();
            if (drifting) {
                world.draw = (world.draw * 1103515245L + 12345L) % (1L << 31);
                if (!world.hearers.isEmpty()) {
                    int who = (int) (world.draw / 65536 % world.hearers.size());
                    world.hearers.get(who).rest((int) (world.draw / 128 % 6));
                }
            }
            looks += Integer.bitCount(world.pass(NONE) >> 8);
        }
        return looks;
    }

    int evenings(int n) {
        return pass(n, false);
    }

    int drift(int n) {
        return pass(n, true);
    }

    int rest(int h, int n) {
        if (noHearer(h) || n < 1 || n > 60) {
            return BAD;
        }
        if (world.hearers.get(h).bears == world.hearers.get(h).most) {
            return NOT;
        }
        remember();
        world.hearers.get(h).rest(n);
        return world.hearers.get(h).bears;
    }

    int spin(int t, int n) {
        if (noTeller(t) || n < 1 || n > 20) {
            return BAD;
        }
        Teller teller = world.tellers.get(t);
        if (teller.lasts == 20) {
            return NOT;
        }
        remember();
        world.tellers.set(t, Teller.make(teller.kind, Math.min(20, teller.lasts + n)));
        return world.tellers.get(t).lasts;
    }

    int step(int v) {
        if (v < 0 || v > 4) {
            return BAD;
        }
        if (world.step == v) {
            return NOT;
        }
        remember();
        int was = world.step;
        world.step = v;
        return was;
    }

    int turn(int v) {
        if (v < 0 || v >= world.seats()) {
            return BAD;
        }
        if (world.turn == v) {
            return NOT;
        }
        remember();
        int was = world.turn;
        world.turn = v;
        return was;
    }

    int undo() {
        if (past.isEmpty()) {
            return NONE;
        }
        world = past.removeLast();
        return past.size();
    }

    int seed(int v) {
        if (v < 0) {
            return BAD;
        }
        int was = (int) world.draw;
        world.draw = v;
        return was;
    }

    // ---- 2

    int ahead(int h, int n, int what) {
        if (noHearer(h) || n < 0 || n > 60 || what < 0 || what > 2) {
            return BAD;
        }
        World w = world.behind(n);
        return what == 0 ? w.hearers.get(h).bears : what == 1 ? w.hearers.get(h).looked : w.tellerFor(h);
    }

    int then(int h, int t, int n) {
        return noHearer(h) || noTeller(t) || n < 0 || n > 60 ? BAD : world.behind(n).hearers.get(h).heard[t];
    }

    int first(int h) {
        if (noHearer(h)) {
            return BAD;
        }
        for (int n = 1; n <= 60; n++) {
            if (world.behind(n).hearers.get(h).looked > world.hearers.get(h).looked) {
                return n;
            }
        }
        return NONE;
    }

    int all() {
        for (int n = 0; n <= 60; n++) {
            World w = world.behind(n);
            int missing = 0;
            for (int h = 0; h < w.hearers.size(); h++) {
                missing |= w.neverHeard(h);
            }
            if (missing == 0) {
                return n;
            }
        }
        return NONE;
    }

    int left(int h, int n) {
        return noHearer(h) || n < 0 || n > 60 ? BAD : world.behind(n).neverHeard(h);
    }

    private static boolean better(int[] a, int[] b) {
        return b == null || a[0] > b[0] || a[0] == b[0] && a[1] < b[1];
    }

    int pace(int n, int what) {
        if (n < 1 || n > 40 || what < 0 || what > 2) {
            return BAD;
        }
        int[] best = null;
        int which = 0;
        for (int v = 0; v <= 4; v++) {
            World w = world.duplicate();
            w.step = v;
            int[] sums = w.tally(n);
            if (better(sums, best)) {
                best = sums;
                which = v;
            }
        }
        return what == 0 ? which : best[what - 1];
    }

    int seating(int n, int k) {
        if (n < 1 || n > 20 || k < -1) {
            return BAD;
        }
        if (k >= world.tellers.size()) {
            return NONE;
        }
        int size = world.tellers.size();
        int[] best = null;
        int[] bestPlaces = null;
        // All numbers of five digits 0 .. 4, rising; those that are orders count.
        for (int code = 0; code < 3125; code++) {
            int[] places = {code / 625, code / 125 % 5, code / 25 % 5, code / 5 % 5, code % 5};
            int seen = 0;
            for (int i = 0; i < 5; i++) {
                boolean fits = i < size ? places[i] < size : places[i] == i;
                seen |= fits ? 1 << places[i] : 0;
            }
            if (seen != 31) {
                continue;
            }
            World w = world.duplicate();
            w.places = places;
            int[] sums = w.tally(n);
            if (better(sums, best)) {
                best = sums;
                bestPlaces = places;
            }
        }
        return k == -1 ? best[0] : bestPlaces[k];
    }

    int needs(int h, int n) {
        if (noHearer(h) || n < 1 || n > 40) {
            return BAD;
        }
        for (int b = 0; b <= 99; b++) {
            World w = world.duplicate();
            Hearer hearer = w.hearers.get(h);
            hearer.bears = b;
            hearer.most = Math.max(hearer.most, b);
            int before = hearer.looked;
            if (w.behind(n).hearers.get(h).looked == before) {
                return b;
            }
        }
        return NONE;
    }

    int spare(int what) {
        if (what < 0 || what > 1) {
            return BAD;
        }
        int who = NONE;
        int fewest = NONE;
        for (int h = world.hearers.size() - 1; h >= 0; h--) {
            World w = world.duplicate();
            int looks = Integer.bitCount(w.pass(h) >> 8) + Integer.bitCount(w.pass(NONE) >> 8);
            if (fewest == NONE || looks <= fewest) {
                who = h;
                fewest = looks;
            }
        }
        return what == 0 ? who : fewest;
    }

    int doze(int m, int c, int what) {
        if (m < 0 || m > 5 || c < 0 || c > 10 || what < 0 || what > 1) {
            return BAD;
        }
        int size = world.hearers.size();
        long above = 0;
        long below = 1;
        for (int i = 0; i < size; i++) {
            below *= 10;
        }
        // Each set of hearers as those who doze, by how many cases of ten each.
        for (int set = 0; set < 1 << size; set++) {
            long cases = 1;
            int looks = 0;
            for (int h = 0; h < size; h++) {
                boolean dozes = (set >> h & 1) != 0;
                cases *= dozes ? c : 10 - c;
                int t = world.tellerFor(h);
                if (t != NONE) {
                    int cost = dozes ? world.cost(h, t) / 2 : world.cost(h, t);
                    looks += cost > world.hearers.get(h).bears ? 1 : 0;
                }
            }
            above += looks >= m ? cases : 0;
        }
        for (int prime : new int[] {2, 5}) {
            while (above % prime == 0 && below % prime == 0) {
                above /= prime;
                below /= prime;
            }
        }
        return (int) (what == 0 ? above : below);
    }

    int image() {
        imagedWorld = world.duplicate();
        imagedPast = new ArrayList<>();
        for (World w : past) {
            imagedPast.add(w.duplicate());
        }
        return 1;
    }

    int restore() {
        if (imagedWorld == null) {
            return NONE;
        }
        world = imagedWorld.duplicate();
        past.clear();
        for (World w : imagedPast) {
            past.addLast(w.duplicate());
        }
        return 1;
    }

    // ---- 3

    private static int lane(Object row) {
        return row instanceof byte[] ? 0 : row instanceof short[] ? 1 : row instanceof int[] ? 2 : 3;
    }

    private static int length(Object row) {
        return java.lang.reflect.Array.getLength(row);
    }

    private static long get(Object row, int i) {
        return ((Number) java.lang.reflect.Array.get(row, i)).longValue();
    }

    private static void set(Object row, int i, long v) {
        switch (lane(row)) {
            case 0 -> ((byte[]) row)[i] = (byte) v;
            case 1 -> ((short[]) row)[i] = (short) v;
            case 2 -> ((int[]) row)[i] = (int) v;
            default -> ((long[]) row)[i] = v;
        }
    }

    private int trouble(int sheet, int lane, int i, int n) {
        Object row = sheets[sheet];
        if (row == null) {
            return NULL;
        }
        if (lane(row) != lane) {
            return CAST;
        }
        return i < 0 || (long) i + n > length(row) ? INDEX : 0;
    }

    private static boolean noSheet(int s) {
        return s < 0 || s > 3;
    }

    int borne(int h, int t, int sheet, int lane, int i, int n, int what) {
        if (noHearer(h) || noTeller(t) || noSheet(sheet) || noSheet(lane) || n < 1 || n > 8 || what < 0 || what > 2) {
            return BAD;
        }
        int trouble = trouble(sheet, lane, i, n);
        if (trouble != 0) {
            return trouble;
        }
        int set = 0;
        for (int v = what == 1 ? 1 : 0; v <= (what == 1 ? 20 : 4); v++) {
            World w = world.duplicate();
            Teller teller = w.tellers.get(t);
            if (what == 0) {
                w.tellers.set(t, Teller.make(v, teller.lasts));
            } else if (what == 1) {
                w.tellers.set(t, Teller.make(teller.kind, v));
            } else {
                w.step = v;
            }
            boolean same = true;
            for (int k = 0; k < n; k++) {
                same &= w.behind(k + 1).hearers.get(h).bears == get(sheets[sheet], i + k);
            }
            set |= same ? 1 << v : 0;
        }
        return set;
    }

    int film(int h, int n, int sheet, int lane, int i) {
        if (noHearer(h) || noSheet(sheet) || noSheet(lane) || n < 1 || n > 24) {
            return BAD;
        }
        int trouble = trouble(sheet, lane, i, n);
        if (trouble != 0) {
            return trouble;
        }
        for (int k = 0; k < n; k++) {
            set(sheets[sheet], i + k, world.behind(k + 1).hearers.get(h).bears);
        }
        return n;
    }

    int sheet(int sheet, int lane, int n) {
        if (noSheet(sheet) || noSheet(lane) || n > 24) {
            return BAD;
        }
        if (n < 0) {
            return SIZE;
        }
        sheets[sheet] = switch (lane) {
            case 0 -> new byte[n];
            case 1 -> new short[n];
            case 2 -> new int[n];
            default -> new long[n];
        };
        return n;
    }

    int drop(int sheet) {
        if (noSheet(sheet)) {
            return BAD;
        }
        if (sheets[sheet] == null) {
            return NULL;
        }
        int n = length(sheets[sheet]);
        sheets[sheet] = null;
        return n;
    }

    int item(int sheet, int lane, int i, long v) {
        if (noSheet(sheet) || noSheet(lane)) {
            return BAD;
        }
        int trouble = trouble(sheet, lane, i, 1);
        if (trouble != 0) {
            return trouble;
        }
        set(sheets[sheet], i, v);
        return 1;
    }

    int copy(int from, int i, int to, int j, int n) {
        if (noSheet(from) || noSheet(to)) {
            return BAD;
        }
        try {
            System.arraycopy(sheets[from], i, sheets[to], j, n);
        } catch (NullPointerException e) {
            return NULL;
        } catch (ArrayStoreException e) {
            return CAST;
        } catch (IndexOutOfBoundsException e) {
            return INDEX;
        }
        return n;
    }
}
