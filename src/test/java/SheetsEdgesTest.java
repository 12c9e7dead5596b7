/** The boundary cases of promises 30 to 35: what one bore, and sheets that may be missing. */
public final class SheetsEdgesTest {
    private static final int ALL_LONG = 0x1ffffe;
    private static final int NULL = -11, CAST = -12, INDEX = -13;
    private static final Check check = new Check("SheetsEdgesTest");

    public static void main(String[] args) {
        howLongAtTheEnds();
        kindsAtTheEnds();
        stepsAtTheEnds();
        oneToEight();
        itemsOfALane();
        itemsFromIOn();
        filmsOfOneAndAll();
        filmLeavesTheRest();
        filmFromNow();
        sheetsOfNoneAndAll();
        sheetsAreNew();
        dropped();
        itemsAtTheEnds();
        lowestBits();
        copyOfNoneAndAll();
        copyOntoItself();
        copyBetween();
        check.end();
    }

    private static void row(DullEvenings x, int sheet, int lane, long... values) {
        check.due("sheet", x.sheet(sheet, lane, values.length), values.length);
        for (int i = 0; i < values.length; i++) {
            check.due("item", x.item(sheet, lane, i, values[i]), 1);
        }
    }

    /** What a sheet's items are, where 40 to 59: by a hearer who bears 60 and tales that cost so much. */
    private static void items(String what, DullEvenings x, int sheet, int lane, long... due) {
        for (int i = 0; i < due.length; i++) {
            int set = due[i] >= 40 && due[i] <= 59 ? 1 << 60 - due[i] : 0;
            check.due(what + ": item " + i, x.borne(0, 0, sheet, lane, i, 1, 1), set);
        }
        check.due(what + ": no more", x.borne(0, 0, sheet, lane, due.length, 1, 1), INDEX);
    }

    private static void howLongAtTheEnds() {
        check.sentence("BORNE: how LONG his tale might be (1 .. 20, a set of bits 1 .. 20)");
        DullEvenings x = Check.told("60;p5");
        for (int bears = 0; bears <= 62; bears++) {
            row(x, 0, 2, bears);
            int due = bears >= 40 && bears <= 59 ? 1 << 60 - bears : 0;
            check.due("BEARS " + bears, x.borne(0, 0, 0, 2, 0, 1, 1), due);
        }
        DullEvenings weak = Check.told("1;p5");
        row(weak, 0, 2, 0);
        check.due("all of 1 .. 20: heard by 1, else LOOKED", weak.borne(0, 0, 0, 2, 0, 1, 1), ALL_LONG);
        DullEvenings tap = Check.told("60;t5");
        tap.evenings(1);
        row(tap, 0, 2, 55, 45);
        check.due("half of 1 is 0", tap.borne(0, 0, 0, 2, 0, 1, 1), 2);
        check.due("half of 20 is 10", tap.borne(0, 0, 0, 2, 1, 1, 1), 1 << 20);
        DullEvenings other = Check.told("60;p5,p20!0");
        row(other, 0, 2, 55);
        check.due("of whom he has not, all", other.borne(0, 1, 0, 2, 0, 1, 1), ALL_LONG);
        row(other, 0, 2, 54);
        check.due("of whom he has not, none", other.borne(0, 1, 0, 2, 0, 1, 1), 0);
    }

    private static void kindsAtTheEnds() {
        check.sentence("BORNE: KINDS (a set) of a TELLER by which it would be so");
        DullEvenings x = Check.told("60;p5,p20!0");
        row(x, 0, 2, 55, 60, 56, 54);
        check.due("all KINDS of whom he has not", x.borne(0, 1, 0, 2, 0, 1, 0), 31);
        check.due("by 5", x.borne(0, 0, 0, 2, 0, 1, 0), 1 + 2 + 4 + 16);
        check.due("by 0", x.borne(0, 0, 0, 2, 1, 1, 0), 0);
        DullEvenings weak = Check.told("9-2;p5");
        row(weak, 1, 0, 0, 2, 6);
        check.due("an umbrella of 8 is too much", weak.borne(0, 0, 1, 0, 0, 1, 0), 16);
        check.due("by 5", weak.borne(0, 0, 1, 0, 1, 1, 0), 1 + 2 + 4);
        check.due("a wit by 1", weak.borne(0, 0, 1, 0, 2, 1, 0), 8);
    }

    private static void stepsAtTheEnds() {
        check.sentence("BORNE: STEPS (0 .. 4, a set)");
        DullEvenings one = Check.told("60;p5");
        row(one, 0, 2, 55, 50);
        check.due("one SEAT: all", one.borne(0, 0, 0, 2, 0, 2, 2), 31);
        check.due("one SEAT: none", one.borne(0, 0, 0, 2, 1, 1, 2), 0);
        DullEvenings five = Check.told("60;p1,p2,p3,p4,p5");
        for (int step = 0; step <= 4; step++) {
            int next = (5 - step) % 5 + 1;
            row(five, 0, 2, 59, 59 - next);
            check.due("five SEATS: STEP " + step, five.borne(0, 0, 0, 2, 0, 2, 2), 1 << step);
        }
        check.due("one EVENING: all", five.borne(0, 0, 0, 2, 0, 1, 2), 31);
        DullEvenings two = Check.told("60;p1,p2");
        row(two, 0, 2, 59, 58, 57);
        check.due("two SEATS: 0, 2, 4", two.borne(0, 0, 0, 2, 0, 3, 2), 1 + 4 + 16);
        row(two, 0, 2, 59, 57, 56);
        check.due("two SEATS: 1, 3", two.borne(0, 0, 0, 2, 0, 3, 2), 2 + 8);
    }

    private static void oneToEight() {
        check.sentence("BORNE: behind each of the next n EVENINGS (1 .. 8)");
        DullEvenings x = Check.told("60;p5");
        for (int n = 1; n <= 8; n++) {
            check.due("sheet", x.sheet(0, 2, n), n);
            check.due("film", x.film(0, n, 0, 2, 0), n);
            check.due("all " + n + " are so", x.borne(0, 0, 0, 2, 0, n, 1), 1 << 5);
            check.due("item", x.item(0, 2, n - 1, 61), 1);
            check.due("the last of " + n + " is not so", x.borne(0, 0, 0, 2, 0, n, 1), 0);
        }
    }

    private static void itemsOfALane() {
        check.sentence("BORNE: by n items of a SHEET taken as a row of a LANE");
        long[] wide = {55 + 256, 55 + 65536, 55 + (1L << 32), 55 - 256, Long.MIN_VALUE + 55};
        int[][] same = {{1, 1, 1, 1, 1}, {0, 1, 1, 0, 1}, {0, 0, 1, 0, 1}, {0, 0, 0, 0, 0}};
        for (int lane = 0; lane < 4; lane++) {
            DullEvenings x = Check.told("60;p5");
            row(x, 0, lane, wide);
            for (int i = 0; i < wide.length; i++) {
                int due = same[lane][i] == 1 ? 1 << 5 : 0;
                check.due(wide[i] + " in lane " + lane, x.borne(0, 0, 0, lane, i, 1, 1), due);
            }
        }
    }

    private static void itemsFromIOn() {
        check.sentence("BORNE: from item i on; INDEX");
        DullEvenings x = Check.told("60;p5");
        row(x, 0, 3, 0, 0, 55, 50);
        check.due("the last two", x.borne(0, 0, 0, 3, 2, 2, 0), 1);
        check.due("one more", x.borne(0, 0, 0, 3, 2, 3, 0), INDEX);
        check.due("the last", x.borne(0, 0, 0, 3, 3, 1, 1), 1 << 10);
        check.due("behind the last", x.borne(0, 0, 0, 3, 4, 1, 1), INDEX);
        check.due("ahead of the first", x.borne(0, 0, 0, 3, -1, 1, 1), INDEX);
        x.sheet(0, 3, 0);
        check.due("of no items", x.borne(0, 0, 0, 3, 0, 1, 1), INDEX);
        x.drop(0);
        check.due("of nothing", x.borne(0, 0, 0, 3, 0, 1, 1), NULL);
    }

    private static void filmsOfOneAndAll() {
        check.sentence("Promise 31: What a HEARER BEARS behind 1, 2, .. n EVENINGS (1 .. 24), an item each");
        for (int lane = 0; lane < 4; lane++) {
            DullEvenings x = Check.told("60,60;p1,p2!0");
            x.sheet(0, lane, 24);
            check.due("film of 24", x.film(0, 24, 0, lane, 0), 24);
            for (int i = 0; i < 24; i++) {
                int due = i < 20 ? 1 << i + 1 : 0;
                check.due("item " + i, x.borne(0, 0, 0, lane, i, 1, 1), due);
            }
            check.due("one more", x.film(0, 24, 0, lane, 1), INDEX);
            check.due("25", x.film(0, 25, 0, lane, 0), -1);
            check.due("film of 1 at the end", x.film(1, 1, 0, lane, 23), 1);
            check.due("the last item", x.borne(0, 0, 0, lane, 23, 1, 1), 1 << 2);
            check.due("film of 1 behind the end", x.film(1, 1, 0, lane, 24), INDEX);
        }
        DullEvenings y = Check.told("60-60;p1");
        row(y, 0, 0, 7, 7);
        check.due("BEARS 0", y.film(0, 2, 0, 0, 0), 2);
        check.due("0 as it is", y.borne(0, 0, 0, 0, 0, 2, 1), ALL_LONG);
        y.sheet(0, 0, 0);
        check.due("of no items", y.film(0, 1, 0, 0, 0), INDEX);
    }

    private static void filmLeavesTheRest() {
        check.sentence("Promise 31: comes to a SHEET likewise (from item i on)");
        DullEvenings x = Check.told("60;p5");
        row(x, 2, 1, 41, 42, 43, 44, 45);
        check.due("film of 2 from 1 on", x.film(0, 2, 2, 1, 1), 2);
        items("what stands ahead and behind", x, 2, 1, 41, 55, 50, 44, 45);
        check.due("refused", x.film(0, 3, 2, 1, 3), INDEX);
        items("what was there", x, 2, 1, 41, 55, 50, 44, 45);
    }

    private static void filmFromNow() {
        check.sentence("Promise 31: (nothing is changed)");
        DullEvenings x = Check.told("60,60;p5,d5");
        x.evenings(1);
        x.sheet(0, 2, 24);
        int[] counts = new int[9];
        for (int what = 0; what <= 8; what++) {
            counts[what] = x.count(what);
        }
        check.due("film", x.film(1, 24, 0, 2, 0), 24);
        for (int what = 0; what <= 8; what++) {
            check.due("count(" + what + ")", x.count(what), counts[what]);
        }
        check.due("BEARS", x.at(0, 1), 55);
        check.due("BEARS", x.at(1, 1), 55);
    }

    private static void sheetsOfNoneAndAll() {
        check.sentence("of 0 to 24 items; promise 32: n");
        for (int n = 0; n <= 24; n++) {
            DullEvenings x = new DullEvenings();
            int lane = n % 4;
            check.due("sheet of " + n, x.sheet(n % 3, lane, n), n);
            for (int i = 0; i < n; i++) {
                check.due("item " + i, x.item(n % 3, lane, i, 1), 1);
            }
            check.due("no item " + n, x.item(n % 3, lane, n, 1), INDEX);
            check.due("no item -1", x.item(n % 3, lane, -1, 1), INDEX);
            check.due("drop", x.drop(n % 3), n);
        }
    }

    private static void sheetsAreNew() {
        check.sentence("Promise 32: A SHEET holds a new row of a LANE");
        DullEvenings x = Check.told("60-60;p1");
        for (int lane = 0; lane < 4; lane++) {
            row(x, 3, lane, 9, 9, 9, 9, 9, 9, 9, 9);
            check.due("another one", x.sheet(3, lane, 8), 8);
            check.due("its items are 0", x.borne(0, 0, 3, lane, 0, 8, 1), ALL_LONG);
            check.due("of its LANE alone", x.item(3, (lane + 1) % 4, 0, 1), CAST);
        }
        row(x, 3, 2, 9, 9, 9);
        x.sheet(3, 2, 1);
        x.sheet(3, 2, 3);
        check.due("a longer one again", x.borne(0, 0, 3, 2, 0, 3, 1), ALL_LONG);
        row(x, 3, 2, 9, 9, 9);
        x.drop(3);
        x.sheet(3, 2, 3);
        check.due("behind a drop", x.borne(0, 0, 3, 2, 0, 3, 1), ALL_LONG);
        check.due("other sheets are what they were", x.drop(0), NULL);
    }

    private static void dropped() {
        check.sentence("Promise 33: A SHEET holds nothing: how many items it had. NULL");
        DullEvenings x = new DullEvenings();
        for (int sheet = 0; sheet < 4; sheet++) {
            check.due("nothing at first", x.drop(sheet), NULL);
            x.sheet(sheet, sheet, sheet * 8);
        }
        for (int sheet = 3; sheet >= 0; sheet--) {
            check.due("how many", x.drop(sheet), sheet * 8);
            check.due("nothing", x.drop(sheet), NULL);
            check.due("no item", x.item(sheet, sheet, 0, 1), NULL);
        }
    }

    private static void itemsAtTheEnds() {
        check.sentence("Promise 34: Item i of a SHEET becomes v; INDEX");
        DullEvenings x = Check.told("60;p5");
        row(x, 0, 2, 41, 42, 43);
        check.due("the first", x.item(0, 2, 0, 58), 1);
        check.due("the last", x.item(0, 2, 2, 59), 1);
        check.due("behind the last", x.item(0, 2, 3, 57), INDEX);
        check.due("ahead of the first", x.item(0, 2, -1, 57), INDEX);
        items("only these", x, 0, 2, 58, 42, 59);
    }

    private static void lowestBits() {
        check.sentence("Promise 34: v, its lowest bits");
        int[] bits = {8, 16, 32, 64};
        for (int lane = 0; lane < 4; lane++) {
            DullEvenings x = Check.told("60;p5");
            x.sheet(0, lane, 1);
            long above = bits[lane] == 64 ? 0 : -1L << bits[lane];
            x.item(0, lane, 0, above | 55);
            check.due("all above are lost in lane " + lane, x.borne(0, 0, 0, lane, 0, 1, 1), 1 << 5);
            x.item(0, lane, 0, 55 | 1L << bits[lane] - 1);
            check.due("the highest stays in lane " + lane, x.borne(0, 0, 0, lane, 0, 1, 1), 0);
            x.item(0, lane, 0, Long.MIN_VALUE);
            x.item(0, lane, 0, Long.MAX_VALUE);
            check.due("nothing is so", x.borne(0, 0, 0, lane, 0, 1, 1), 0);
        }
    }

    private static void copyOfNoneAndAll() {
        check.sentence("Promise 35: n items of a SHEET from i on come to another one from j on: n");
        DullEvenings x = Check.told("60;p5");
        row(x, 0, 3, 51, 52, 53);
        row(x, 1, 3, 41, 42, 43, 44);
        check.due("none", x.copy(0, 0, 1, 0, 0), 0);
        check.due("none at the ends", x.copy(0, 3, 1, 4, 0), 0);
        items("as it was", x, 1, 3, 41, 42, 43, 44);
        check.due("all, to the end", x.copy(0, 0, 1, 1, 3), 3);
        items("all came", x, 1, 3, 41, 51, 52, 53);
        check.due("one more than there are", x.copy(0, 0, 1, 0, 4), INDEX);
        check.due("one more than there is room", x.copy(0, 0, 1, 2, 3), INDEX);
        items("nothing came", x, 1, 3, 41, 51, 52, 53);
        check.due("the last to the first", x.copy(0, 2, 1, 0, 1), 1);
        items("one came", x, 1, 3, 53, 51, 52, 53);
        items("from where it stays", x, 0, 3, 51, 52, 53);
        x.sheet(2, 3, 0);
        check.due("none of no items", x.copy(2, 0, 2, 0, 0), 0);
        check.due("one of no items", x.copy(2, 0, 1, 0, 1), INDEX);
        check.due("one to no items", x.copy(1, 0, 2, 0, 1), INDEX);
    }

    private static void copyOntoItself() {
        check.sentence("Promise 35: (or the same), as if all were taken ahead");
        DullEvenings x = Check.told("60;p5");
        row(x, 0, 0, 51, 52, 53, 54, 55);
        check.due("one to the right", x.copy(0, 0, 0, 1, 4), 4);
        items("to the right", x, 0, 0, 51, 51, 52, 53, 54);
        row(x, 0, 1, 51, 52, 53, 54, 55);
        check.due("one to the left", x.copy(0, 1, 0, 0, 4), 4);
        items("to the left", x, 0, 1, 52, 53, 54, 55, 55);
        row(x, 0, 2, 51, 52, 53, 54, 55);
        check.due("onto its place", x.copy(0, 0, 0, 0, 5), 5);
        items("onto its place", x, 0, 2, 51, 52, 53, 54, 55);
        check.due("two to the right", x.copy(0, 0, 0, 2, 3), 3);
        items("two to the right", x, 0, 2, 51, 52, 51, 52, 53);
        check.due("refused", x.copy(0, 0, 0, 3, 3), INDEX);
        items("refused", x, 0, 2, 51, 52, 51, 52, 53);
    }

    private static void copyBetween() {
        check.sentence("Promise 35: of 24 items, in each LANE");
        for (int lane = 0; lane < 4; lane++) {
            DullEvenings x = Check.told("60;p1");
            x.sheet(0, lane, 24);
            x.sheet(3, lane, 24);
            x.film(0, 24, 0, lane, 0);
            check.due("all 24", x.copy(0, 0, 3, 0, 24), 24);
            check.due("the first eight", x.borne(0, 0, 3, lane, 0, 8, 1), 2);
            check.due("the twentieth", x.borne(0, 0, 3, lane, 19, 1, 1), 1 << 20);
            check.due("25", x.copy(0, 0, 3, 0, 25), INDEX);
            check.due("24 from 1 on", x.copy(0, 1, 3, 0, 24), INDEX);
            check.due("24 to 1", x.copy(0, 0, 3, 1, 24), INDEX);
            x.drop(0);
            check.due("what came is its own", x.borne(0, 0, 3, lane, 0, 8, 1), 2);
        }
    }
}
