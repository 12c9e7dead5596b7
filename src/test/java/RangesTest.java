import java.util.Arrays;
import java.util.function.Supplier;

/**
 * Promises 2 to 35: each number that a call is given, at the last place where it is as told and
 * at the first where it is not, and far out. What is BAD changes nothing.
 */
public final class RangesTest {
    private static final int MOST = Integer.MAX_VALUE;
    private static final int LEAST = Integer.MIN_VALUE;
    private static final Check check = new Check("RangesTest");
    private static final Twins twins = new Twins(check);

    private interface Call {
        int on(DullEvenings x, int[] a);
    }

    public static void main(String[] args) {
        tellersAndHearers();
        whatIsDone();
        foretold();
        dozing();
        sheets();
        borneAndFilm();
        nobodyIsThere();
        allAreThere();
        check.end();
    }

    /** The a-th of the good numbers is as told from low to high alone; MOST and LEAST are no bounds. */
    private static void range(String name, Call call, int[] good, int a, int low, int high) {
        range(Shires::some, name, call, good, a, low, high);
    }

    private static void range(Supplier<DullEvenings> making, String name, Call call, int[] good, int a, int low,
            int high) {
        accepted(making, name, call, with(good, a, low));
        accepted(making, name, call, with(good, a, high));
        if (low > LEAST) {
            refused(making, name, call, with(good, a, low - 1));
            refused(making, name, call, with(good, a, LEAST));
        }
        if (high < MOST) {
            refused(making, name, call, with(good, a, high + 1));
            refused(making, name, call, with(good, a, MOST));
        }
    }

    private static int[] with(int[] good, int a, int v) {
        int[] numbers = good.clone();
        numbers[a] = v;
        return numbers;
    }

    private static void accepted(Supplier<DullEvenings> making, String name, Call call, int[] a) {
        check.due(name + Arrays.toString(a) + " is BAD", call.on(making.get(), a) == -1 ? 1 : 0, 0);
    }

    private static void refused(Supplier<DullEvenings> making, String name, Call call, int[] a) {
        twins.unchanged(name + Arrays.toString(a), making, x -> call.on(x, a), -1);
    }

    private static void tellersAndHearers() {
        check.sentence("TELLERS: of a KIND, have a tale LONG by 1 .. 20");
        Call teller = (x, a) -> x.teller(a[0], a[1]);
        range("teller", teller, new int[] {1, 5}, 0, 0, 4);
        range("teller", teller, new int[] {1, 5}, 1, 1, 20);
        check.sentence("HEARERS BEAR up to a MOST of 1 .. 60");
        range("hearer", (x, a) -> x.hearer(a[0]), new int[1], 0, 1, 60);
        check.sentence("Promise 4: of: BAD");
        Call of = (x, a) -> x.of(a[0], a[1]);
        range("of", of, new int[] {1, 1}, 0, 0, 1);
        range("of", of, new int[] {1, 1}, 1, 0, 4);
        check.sentence("Promise 5: at: BAD");
        Call at = (x, a) -> x.at(a[0], a[1]);
        range("at", at, new int[] {1, 1}, 0, 0, 2);
        range("at", at, new int[] {1, 1}, 1, 0, 4);
        check.sentence("Promise 6: heard: BAD");
        Call heard = (x, a) -> x.heard(a[0], a[1]);
        range("heard", heard, new int[] {1, 1}, 0, 0, 2);
        range("heard", heard, new int[] {1, 1}, 1, 0, 1);
        check.sentence("Promise 7: type: BAD: not 32 .. 126");
        range("type", (x, a) -> x.type(a[0]), new int[1], 0, 32, 126);
        refused(Shires::some, "type", (x, a) -> x.type(a[0]), new int[] {65536 + 'p'});
        refused(Shires::some, "type", (x, a) -> x.type(a[0]), new int[] {LEAST + 'p'});
        check.sentence("Promise 9: count: BAD");
        range("count", (x, a) -> x.count(a[0]), new int[1], 0, 0, 8);
    }

    private static void whatIsDone() {
        check.sentence("Promise 10: n EVENINGS (1 .. 40)");
        range("evenings", (x, a) -> x.evenings(a[0]), new int[1], 0, 1, 40);
        check.sentence("Promise 11: RESTED by n (1 .. 60)");
        Call rest = (x, a) -> x.rest(a[0], a[1]);
        range("rest", rest, new int[] {1, 3}, 0, 0, 2);
        range("rest", rest, new int[] {1, 3}, 1, 1, 60);
        check.sentence("Promise 12: SPUN out by n (1 .. 20)");
        Call spin = (x, a) -> x.spin(a[0], a[1]);
        range("spin", spin, new int[] {1, 3}, 0, 0, 1);
        range("spin", spin, new int[] {1, 3}, 1, 1, 20);
        check.sentence("STEP 0 .. 4");
        range("step", (x, a) -> x.step(a[0]), new int[1], 0, 0, 4);
        check.sentence("TURN: 0 and on, below how many SEATS there are");
        range("turn", (x, a) -> x.turn(a[0]), new int[1], 0, 0, 2);
        check.sentence("Promise 15: A DRIFT of n EVENINGS (1 .. 40)");
        range("drift", (x, a) -> x.drift(a[0]), new int[1], 0, 1, 40);
        check.sentence("Promise 17: seed: BAD: below 0");
        range("seed", (x, a) -> x.seed(a[0]), new int[1], 0, 0, MOST);
    }

    private static void foretold() {
        check.sentence("FORETOLD: behind n EVENINGS (0 .. 60)");
        Call ahead = (x, a) -> x.ahead(a[0], a[1], a[2]);
        range("ahead", ahead, new int[] {1, 3, 1}, 0, 0, 2);
        range("ahead", ahead, new int[] {1, 3, 1}, 1, 0, 60);
        range("ahead", ahead, new int[] {1, 3, 1}, 2, 0, 2);
        Call then = (x, a) -> x.then(a[0], a[1], a[2]);
        range("then", then, new int[] {1, 1, 3}, 0, 0, 2);
        range("then", then, new int[] {1, 1, 3}, 1, 0, 1);
        range("then", then, new int[] {1, 1, 3}, 2, 0, 60);
        check.sentence("Promise 20: first: BAD");
        range("first", (x, a) -> x.first(a[0]), new int[1], 0, 0, 2);
        check.sentence("LEFT: behind n EVENINGS (0 .. 60)");
        Call left = (x, a) -> x.left(a[0], a[1]);
        range("left", left, new int[] {1, 3}, 0, 0, 2);
        range("left", left, new int[] {1, 3}, 1, 0, 60);
        check.sentence("PACE for n EVENINGS (1 .. 40)");
        Call pace = (x, a) -> x.pace(a[0], a[1]);
        range("pace", pace, new int[] {3, 1}, 0, 1, 40);
        range("pace", pace, new int[] {3, 1}, 1, 0, 2);
        check.sentence("SEATING for n EVENINGS (1 .. 20); BAD: k below -1");
        Call seating = (x, a) -> x.seating(a[0], a[1]);
        range("seating", seating, new int[] {3, 1}, 0, 1, 20);
        range("seating", seating, new int[] {3, -1}, 0, 1, 20);
        range("seating", seating, new int[] {3, 1}, 1, -1, MOST);
        check.sentence("NEEDS of a HEARER, n EVENINGS (1 .. 40)");
        Call needs = (x, a) -> x.needs(a[0], a[1]);
        range("needs", needs, new int[] {1, 3}, 0, 0, 2);
        range("needs", needs, new int[] {1, 3}, 1, 1, 40);
        check.sentence("Promise 26: spare: BAD");
        range("spare", (x, a) -> x.spare(a[0]), new int[1], 0, 0, 1);
    }

    private static void dozing() {
        check.sentence("DOZE by c of 10 (0 .. 10); m (0 .. 5) at least");
        Call doze = (x, a) -> x.doze(a[0], a[1], a[2]);
        range("doze", doze, new int[] {1, 3, 1}, 0, 0, 5);
        range("doze", doze, new int[] {1, 3, 1}, 1, 0, 10);
        range("doze", doze, new int[] {1, 3, 1}, 2, 0, 1);
    }

    private static void sheets() {
        check.sentence("sheets 0 .. 3; a LANE: 0 bytes, 1 shorts, 2 ints, 3 longs; of 0 to 24 items");
        Call sheet = (x, a) -> x.sheet(a[0], a[1], a[2]);
        range("sheet", sheet, new int[] {1, 1, 5}, 0, 0, 3);
        range("sheet", sheet, new int[] {1, 1, 5}, 1, 0, 3);
        range("sheet", sheet, new int[] {1, 1, 5}, 2, LEAST, 24);
        check.sentence("Promise 33: drop: BAD");
        range("drop", (x, a) -> x.drop(a[0]), new int[1], 0, 0, 3);
        check.sentence("Promise 34: item: BAD");
        Call item = (x, a) -> x.item(a[0], a[1], a[2], 50L);
        range("item", item, new int[] {0, 2, 1}, 0, 0, 3);
        range("item", item, new int[] {0, 2, 1}, 1, 0, 3);
        range("item", item, new int[] {0, 2, 1}, 2, LEAST, MOST);
        check.sentence("Promise 35: copy: BAD");
        Call copy = (x, a) -> x.copy(a[0], a[1], a[2], a[3], a[4]);
        int[] good = {0, 0, 0, 1, 2};
        range("copy", copy, good, 0, 0, 3);
        range("copy", copy, good, 1, LEAST, MOST);
        range("copy", copy, good, 2, 0, 3);
        range("copy", copy, good, 3, LEAST, MOST);
        range("copy", copy, good, 4, LEAST, MOST);
    }

    private static void borneAndFilm() {
        check.sentence("BORNE: behind each of the next n EVENINGS (1 .. 8); promise 30: BAD");
        Call borne = (x, a) -> x.borne(a[0], a[1], a[2], a[3], a[4], a[5], a[6]);
        for (int what = 0; what <= 2; what++) {
            int[] good = {1, 1, 0, 2, 0, 2, what};
            range("borne", borne, good, 0, 0, 2);
            range("borne", borne, good, 1, 0, 1);
            range("borne", borne, good, 2, 0, 3);
            range("borne", borne, good, 3, 0, 3);
            range("borne", borne, good, 4, LEAST, MOST);
            range("borne", borne, good, 5, 1, 8);
            range("borne", borne, good, 6, 0, 2);
        }
        check.sentence("Promise 31: behind 1, 2, .. n EVENINGS (1 .. 24); BAD");
        Call film = (x, a) -> x.film(a[0], a[1], a[2], a[3], a[4]);
        int[] good = {1, 2, 0, 2, 0};
        range("film", film, good, 0, 0, 2);
        range("film", film, good, 1, 1, 24);
        range("film", film, good, 2, 0, 3);
        range("film", film, good, 3, 0, 3);
        range("film", film, good, 4, LEAST, MOST);
    }

    private static void nobodyIsThere() {
        check.sentence("BAD: there is no such thing; of an empty list");
        int[] none = {0};
        refused(Shires::empty, "of", (x, a) -> x.of(0, 0), none);
        refused(Shires::empty, "at", (x, a) -> x.at(0, 0), none);
        refused(Shires::empty, "heard", (x, a) -> x.heard(0, 0), none);
        refused(Shires::empty, "rest", (x, a) -> x.rest(0, 1), none);
        refused(Shires::empty, "spin", (x, a) -> x.spin(0, 1), none);
        refused(Shires::empty, "turn", (x, a) -> x.turn(0), none);
        refused(Shires::empty, "turn", (x, a) -> x.turn(-1), none);
        refused(Shires::empty, "turn", (x, a) -> x.turn(1), none);
        refused(Shires::empty, "ahead", (x, a) -> x.ahead(0, 0, 0), none);
        refused(Shires::empty, "then", (x, a) -> x.then(0, 0, 0), none);
        refused(Shires::empty, "first", (x, a) -> x.first(0), none);
        refused(Shires::empty, "left", (x, a) -> x.left(0, 0), none);
        refused(Shires::empty, "needs", (x, a) -> x.needs(0, 1), none);
        refused(Shires::empty, "borne", (x, a) -> x.borne(0, 0, 0, 0, 0, 1, 2), none);
        refused(Shires::empty, "film", (x, a) -> x.film(0, 1, 0, 0, 0), none);
        check.sentence("BAD: there is no such thing; tellers, but no hearers, and hearers, but no tellers");
        DullEvenings tellers = new DullEvenings();
        tellers.teller(0, 1);
        tellers.sheet(0, 0, 1);
        check.due("heard(0, 0)", tellers.heard(0, 0), -1);
        check.due("then(0, 0, 0)", tellers.then(0, 0, 0), -1);
        check.due("borne of no hearer", tellers.borne(0, 0, 0, 0, 0, 1, 2), -1);
        DullEvenings hearers = new DullEvenings();
        hearers.hearer(1);
        hearers.sheet(0, 0, 1);
        check.due("heard(0, 0)", hearers.heard(0, 0), -1);
        check.due("then(0, 0, 0)", hearers.then(0, 0, 0), -1);
        check.due("borne of no teller", hearers.borne(0, 0, 0, 0, 0, 1, 2), -1);
    }

    private static void allAreThere() {
        check.sentence("TELLERS 0 .. 4, HEARERS 0 .. 4");
        range(Shires::full, "of", (x, a) -> x.of(a[0], 0), new int[1], 0, 0, 4);
        range(Shires::full, "at", (x, a) -> x.at(a[0], 0), new int[1], 0, 0, 4);
        range(Shires::full, "heard", (x, a) -> x.heard(a[0], 4), new int[1], 0, 0, 4);
        range(Shires::full, "heard", (x, a) -> x.heard(4, a[0]), new int[1], 0, 0, 4);
        range(Shires::full, "rest", (x, a) -> x.rest(a[0], 1), new int[1], 0, 0, 4);
        range(Shires::full, "spin", (x, a) -> x.spin(a[0], 1), new int[1], 0, 0, 4);
        range(Shires::full, "turn", (x, a) -> x.turn(a[0]), new int[1], 0, 0, 4);
        range(Shires::full, "ahead", (x, a) -> x.ahead(a[0], 60, 0), new int[1], 0, 0, 4);
        range(Shires::full, "then", (x, a) -> x.then(a[0], 4, 60), new int[1], 0, 0, 4);
        range(Shires::full, "then", (x, a) -> x.then(4, a[0], 60), new int[1], 0, 0, 4);
        range(Shires::full, "first", (x, a) -> x.first(a[0]), new int[1], 0, 0, 4);
        range(Shires::full, "left", (x, a) -> x.left(a[0], 60), new int[1], 0, 0, 4);
        range(Shires::full, "needs", (x, a) -> x.needs(a[0], 40), new int[1], 0, 0, 4);
        range(Shires::full, "borne", (x, a) -> x.borne(a[0], 4, 0, 2, 0, 1, 0), new int[1], 0, 0, 4);
        range(Shires::full, "borne", (x, a) -> x.borne(4, a[0], 0, 2, 0, 1, 0), new int[1], 0, 0, 4);
        range(Shires::full, "film", (x, a) -> x.film(a[0], 1, 0, 2, 0), new int[1], 0, 0, 4);
    }
}
