import java.util.function.Supplier;
import java.util.function.ToIntFunction;

/**
 * What is refused otherwise than as BAD, and changes nothing; and of several answers below 0 the
 * first that a call names.
 */
public final class RefusedTest {
    private static final int BAD = -1, NOT = -2, FULL = -3, NONE = -4;
    private static final int NULL = -11, CAST = -12, INDEX = -13, SIZE = -14;
    private static final int MOST = Integer.MAX_VALUE;
    private static final int LEAST = Integer.MIN_VALUE;
    private static final Check check = new Check("RefusedTest");
    private static final Twins twins = new Twins(check);

    public static void main(String[] args) {
        fullLists();
        fullTape();
        fullEvenings();
        notSo();
        none();
        faults();
        missingSheets();
        otherLanes();
        beyondItems();
        sizes();
        badAheadOfAll();
        machineFindsInOrder();
        check.end();
    }

    private static void some(String call, ToIntFunction<DullEvenings> asking, int due) {
        twins.unchanged(call, Shires::some, asking, due);
    }

    private static void full(String call, ToIntFunction<DullEvenings> asking, int due) {
        twins.unchanged(call, Shires::full, asking, due);
    }

    private static void fullLists() {
        check.sentence("Promise 2: FULL: 5");
        full("teller(0, 1)", x -> x.teller(0, 1), FULL);
        full("teller(4, 20)", x -> x.teller(4, 20), FULL);
        check.sentence("Promise 3: FULL: 5");
        full("hearer(1)", x -> x.hearer(1), FULL);
        full("hearer(60)", x -> x.hearer(60), FULL);
    }

    private static DullEvenings withFullTape() {
        DullEvenings x = Check.told("9;p1");
        for (int i = 0; i < 70; i++) {
            x.type(i < 69 ? ' ' : '~');
        }
        return x;
    }

    private static void fullTape() {
        check.sentence("Promise 7: FULL: 70");
        twins.unchanged("type(' ')", RefusedTest::withFullTape, x -> x.type(' '), FULL);
        twins.unchanged("type('~')", RefusedTest::withFullTape, x -> x.type('~'), FULL);
        check.due("the last letter stands", withFullTape().list(), -20 - 69);
    }

    private static void fullEvenings() {
        check.sentence("Promises 10, 15: FULL: the EVENING would be above 9999");
        Supplier<DullEvenings> late = () -> Check.inTheLastEvening(9, 0, 9);
        twins.unchanged("evenings(1)", late, x -> x.evenings(1), FULL);
        twins.unchanged("evenings(40)", late, x -> x.evenings(40), FULL);
        twins.unchanged("drift(1)", late, x -> x.drift(1), FULL);
        twins.unchanged("drift(40)", late, x -> x.drift(40), FULL);
    }

    private static void notSo() {
        check.sentence("Promise 11: NOT: he BEARS MOST");
        full("rest(0, 1)", x -> x.rest(0, 1), NOT);
        full("rest(0, 60)", x -> x.rest(0, 60), NOT);
        check.sentence("Promise 12: NOT: it is LONG by 20");
        full("spin(0, 1)", x -> x.spin(0, 1), NOT);
        full("spin(0, 20)", x -> x.spin(0, 20), NOT);
        check.sentence("Promise 13: NOT: it is so");
        some("step(2)", x -> x.step(2), NOT);
        full("step(0)", x -> x.step(0), NOT);
        twins.unchanged("step(1) at first", Shires::empty, x -> x.step(1), NOT);
        check.sentence("Promise 14: NOT: it is so");
        some("turn(2)", x -> x.turn(2), NOT);
        full("turn(1)", x -> x.turn(1), NOT);
        twins.unchanged("turn(0) at first", () -> Check.told("1;p1"), x -> x.turn(0), NOT);
    }

    private static void none() {
        check.sentence("Promise 16: NONE: none is known");
        twins.unchanged("undo()", Shires::empty, x -> x.undo(), NONE);
        twins.unchanged("undo() of a list", () -> Check.told("9,8;p1,d2"), x -> x.undo(), NONE);
        check.sentence("Promise 29: NONE: there is none");
        twins.unchanged("restore()", Shires::empty, x -> x.restore(), NONE);
        twins.unchanged("restore() behind evenings", RefusedTest::withoutImage, x -> x.restore(), NONE);
        check.sentence("Promise 24: the k-th (NONE: not so many)");
        some("seating(1, 2)", x -> x.seating(1, 2), NONE);
        some("seating(20, most)", x -> x.seating(20, MOST), NONE);
        full("seating(1, 5)", x -> x.seating(1, 5), NONE);
        twins.unchanged("seating(1, 0)", Shires::empty, x -> x.seating(1, 0), NONE);
        check.sentence("Promise 26: NONE");
        twins.unchanged("spare(0)", Shires::empty, x -> x.spare(0), NONE);
        twins.unchanged("spare(1)", Shires::empty, x -> x.spare(1), NONE);
    }

    private static DullEvenings withoutImage() {
        DullEvenings x = Check.told("9,8;p1,d2");
        x.evenings(3);
        x.sheet(2, 1, 4);
        return x;
    }

    private static void fault(String more, int due) {
        twins.unchangedButTape("list() with " + more, Shires::some, x -> Check.tell(x, more), due);
        twins.unchangedButTape("list() with " + more, Shires::full, x -> Check.tell(x, more), due);
    }

    private static void faults() {
        // The tape has 60 on it, so that what is told stands behind it.
        check.sentence("Promise 8: A FAULT (all else stays); THE TAPE is empty then");
        fault("", -22);
        fault("x", -22);
        fault(",5-9", -25);
        fault(",4,3,2,1;", -31);
        fault(",4,3,2,1,9;p1", -30);
        fault(";p5,d0", -27);
        fault(";p5,d5!", -29);
        fault(";p5,d5!5", -29);
        fault(";p5,d5!0,", -30);
        fault(";p5,d5!0 x", -31);
    }

    private static void missingSheets() {
        check.sentence("NULL: a SHEET holds nothing");
        some("drop(2)", x -> x.drop(2), NULL);
        some("item(2)", x -> x.item(2, 0, 0, 1), NULL);
        some("film to 3", x -> x.film(0, 1, 3, 0, 0), NULL);
        some("borne by 3", x -> x.borne(0, 0, 3, 0, 0, 1, 0), NULL);
        check.sentence("Promise 35: NULL (either)");
        some("copy from 2", x -> x.copy(2, 0, 0, 0, 1), NULL);
        some("copy to 2", x -> x.copy(0, 0, 2, 0, 1), NULL);
        some("copy from 2 to 3", x -> x.copy(2, 0, 3, 0, 1), NULL);
        some("copy from 2 to 2, no items", x -> x.copy(2, 0, 2, 0, 0), NULL);
    }

    private static void otherLanes() {
        check.sentence("CAST: of SHEETS another LANE");
        for (int lane = 0; lane < 4; lane++) {
            int other = lane;
            some("item(0) in lane " + lane, x -> x.item(0, other, 3, 1), other == 2 ? INDEX : CAST);
            some("film to 1 in lane " + lane, x -> x.film(0, 3, 1, other, 0), other == 0 ? INDEX : CAST);
            some("borne by 0 in lane " + lane, x -> x.borne(0, 0, 0, other, 0, 4, 0), other == 2 ? INDEX : CAST);
        }
        check.sentence("Promise 35: CAST: of unlike LANES");
        some("copy", x -> x.copy(0, 0, 1, 0, 1), CAST);
        some("copy of none", x -> x.copy(1, 0, 0, 0, 0), CAST);
        for (int from = 0; from < 4; from++) {
            for (int to = 0; to < 4; to++) {
                DullEvenings x = new DullEvenings();
                x.sheet(0, from, 2);
                x.sheet(1, to, 2);
                check.due("copy of lane " + from + " to " + to, x.copy(0, 0, 1, 0, 2), from == to ? 2 : CAST);
            }
        }
    }

    private static void beyondItems() {
        check.sentence("INDEX: no such items");
        int[] beyond = {-1, 3, 4, LEAST, MOST};
        for (int i : beyond) {
            some("item " + i, x -> x.item(0, 2, i, 1), INDEX);
            some("film from " + i, x -> x.film(0, 1, 0, 2, i), INDEX);
            some("borne from " + i, x -> x.borne(0, 0, 0, 2, i, 1, 0), INDEX);
            some("copy from " + i, x -> x.copy(0, i, 0, 0, 1), INDEX);
            some("copy to " + i, x -> x.copy(0, 0, 0, i, 1), INDEX);
        }
        for (int i = 0; i < 3; i++) {
            int first = i;
            int more = 4 - i;
            some("film of one more than there is", x -> x.film(0, more, 0, 2, first), INDEX);
            some("borne by one more", x -> x.borne(0, 0, 0, 2, first, more, 2), INDEX);
            some("copy of one more", x -> x.copy(0, first, 0, 0, more), INDEX);
            some("copy to one more", x -> x.copy(0, 0, 0, first, more), INDEX);
        }
        some("copy of -1 items", x -> x.copy(0, 1, 0, 1, -1), INDEX);
        some("copy of least items", x -> x.copy(0, 1, 0, 1, LEAST), INDEX);
        some("copy of most items", x -> x.copy(0, 3, 0, 3, MOST), INDEX);
        some("copy of none behind the end", x -> x.copy(0, 4, 0, 0, 0), INDEX);
        some("copy of none to behind the end", x -> x.copy(0, 0, 0, 4, 0), INDEX);
        some("copy of none ahead of the row", x -> x.copy(0, -1, 0, 0, 0), INDEX);
        some("copy of none to ahead of the row", x -> x.copy(0, 0, 0, -1, 0), INDEX);
    }

    private static void sizes() {
        check.sentence("Promise 32: SIZE: n below 0");
        some("sheet(0, 2, -1)", x -> x.sheet(0, 2, -1), SIZE);
        some("sheet(0, 0, least)", x -> x.sheet(0, 0, LEAST), SIZE);
        some("sheet(3, 3, -1)", x -> x.sheet(3, 3, -1), SIZE);
    }

    private static void badAheadOfAll() {
        check.sentence("of several the first that a call names: BAD; FULL");
        full("teller(5, 1)", x -> x.teller(5, 1), BAD);
        full("teller(0, 21)", x -> x.teller(0, 21), BAD);
        full("hearer(61)", x -> x.hearer(61), BAD);
        twins.unchanged("type(127)", RefusedTest::withFullTape, x -> x.type(127), BAD);
        DullEvenings late = Check.inTheLastEvening(9, 0, 9);
        for (int n : new int[] {LEAST, -1, 0, 41, MOST}) {
            check.due("evenings(" + n + ")", late.evenings(n), BAD);
            check.due("drift(" + n + ")", late.drift(n), BAD);
        }
        check.sentence("of several the first that a call names: BAD; NOT");
        full("rest(0, 0)", x -> x.rest(0, 0), BAD);
        full("rest(0, 61)", x -> x.rest(0, 61), BAD);
        full("spin(0, 0)", x -> x.spin(0, 0), BAD);
        full("spin(0, 21)", x -> x.spin(0, 21), BAD);
        twins.unchanged("turn(0) of no seats", Shires::empty, x -> x.turn(0), BAD);
        check.sentence("of several the first that a call names: BAD; NULL; CAST; INDEX; SIZE");
        some("borne", x -> x.borne(0, 0, 3, 0, 99, 9, 0), BAD);
        some("borne", x -> x.borne(0, 0, 0, 0, 99, 0, 0), BAD);
        some("borne", x -> x.borne(0, 2, 3, 0, 99, 1, 0), BAD);
        some("borne", x -> x.borne(3, 0, 0, 2, 99, 1, 2), BAD);
        some("borne", x -> x.borne(0, 0, 3, 0, 99, 1, 3), BAD);
        some("borne", x -> x.borne(0, 0, 3, 4, 99, 1, 0), BAD);
        some("film", x -> x.film(3, 1, 3, 0, 99), BAD);
        some("film", x -> x.film(0, 25, 0, 2, 99), BAD);
        some("film", x -> x.film(0, 0, 3, 0, 99), BAD);
        some("film", x -> x.film(0, 1, 3, 4, 99), BAD);
        some("item", x -> x.item(3, 4, 99, 1), BAD);
        some("copy", x -> x.copy(3, 99, 4, 99, 99), BAD);
        some("copy", x -> x.copy(4, 99, 3, 99, 99), BAD);
        some("sheet", x -> x.sheet(4, 0, -1), BAD);
        some("sheet", x -> x.sheet(0, 4, -1), BAD);
    }

    private static void machineFindsInOrder() {
        check.sentence("NULL, CAST, INDEX, SIZE in this order");
        some("borne: NULL", x -> x.borne(0, 0, 3, 0, 99, 1, 0), NULL);
        some("borne: CAST", x -> x.borne(0, 0, 0, 3, 99, 1, 0), CAST);
        some("film: NULL", x -> x.film(0, 24, 2, 0, 99), NULL);
        some("film: CAST", x -> x.film(0, 24, 0, 1, 99), CAST);
        some("item: NULL", x -> x.item(3, 0, 99, 1), NULL);
        some("item: CAST", x -> x.item(1, 1, 99, 1), CAST);
        some("copy: NULL", x -> x.copy(3, 99, 0, 99, 99), NULL);
        some("copy: NULL", x -> x.copy(0, 99, 3, 99, 99), NULL);
        some("copy: CAST", x -> x.copy(0, 99, 1, 99, 99), CAST);
        some("copy: CAST", x -> x.copy(0, 0, 1, 0, -1), CAST);
    }
}
