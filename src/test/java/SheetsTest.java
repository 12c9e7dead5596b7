/** Promises 30 to 35: what one bore, and sheets that may be missing. */
public final class SheetsTest {
    private static final int MOST = Integer.MAX_VALUE;
    private static final int LEAST = Integer.MIN_VALUE;
    private static final Check check = new Check("SheetsTest");

    public static void main(String[] args) {
        promise30Borne();
        promise30Refused();
        promise31Film();
        promise32Sheet();
        promise33Drop();
        promise34Item();
        promise34LowestBits();
        promise35Copy();
        promise35Overlap();
        check.end();
    }

    private static void row(DullEvenings x, int sheet, int lane, long... values) {
        x.sheet(sheet, lane, values.length);
        for (int i = 0; i < values.length; i++) {
            check.due("item", x.item(sheet, lane, i, values[i]), 1);
        }
    }

    private static void promise30Borne() {
        DullEvenings x = Check.told("20;p4");
        row(x, 0, 2, 16, 12, 8);
        check.due("KINDS by one", x.borne(0, 0, 0, 2, 0, 1, 0), 1 + 2 + 4 + 16);
        check.due("KINDS by two", x.borne(0, 0, 0, 2, 0, 2, 0), 1);
        check.due("LONG by one", x.borne(0, 0, 0, 2, 0, 1, 1), 1 << 4);
        check.due("LONG by the second alone", x.borne(0, 0, 0, 2, 1, 1, 1), 1 << 8);
        check.due("STEPS of one seat", x.borne(0, 0, 0, 2, 0, 3, 2), 31);
        row(x, 0, 2, 16, 14);
        check.due("a tap", x.borne(0, 0, 0, 2, 0, 2, 0), 4 + 16);
        row(x, 0, 2, 16, 11);
        check.due("a drone", x.borne(0, 0, 0, 2, 0, 2, 0), 2);
        row(x, 0, 2, 20, 15);
        check.due("a wit", x.borne(0, 0, 0, 2, 0, 2, 0), 8);
        row(x, 0, 2, 0);
        check.due("LONG by 20 bears 0", x.borne(0, 0, 0, 2, 0, 1, 1), 1 << 20);
        row(x, 0, 2, 19);
        check.due("LONG by 1", x.borne(0, 0, 0, 2, 0, 1, 1), 2);
        row(x, 0, 2, 21);
        check.due("no KIND", x.borne(0, 0, 0, 2, 0, 1, 0), 0);
        DullEvenings y = Check.told("5;p4");
        row(y, 1, 0, 0);
        check.due("all that he can't bear, or just so", y.borne(0, 0, 1, 0, 0, 1, 1), 0x1fffe0);

        DullEvenings z = Check.told("60;p1,p2,p3,p4,p5");
        row(z, 3, 3, 59, 55);
        check.due("STEPS", z.borne(0, 0, 3, 3, 0, 2, 2), 1 << 2);
        check.due("LONG of another", z.borne(0, 4, 3, 3, 0, 1, 1), 0x1ffffe);
        check.due("LONG of another, not so", z.borne(0, 4, 3, 3, 0, 2, 1), 1 << 4);
        check.due("nothing is changed", z.of(4, 1) * 10 + z.count(5), 51);
        z.evenings(1);
        row(z, 3, 3, 54, 50, 47, 45, 44, 39, 35, 32);
        check.due("eight", z.borne(0, 4, 3, 3, 0, 8, 1), 1 << 5);
        check.due("eight by KIND", z.borne(0, 4, 3, 3, 0, 8, 0), 1);
    }

    private static void promise30Refused() {
        DullEvenings x = Check.told("20;p4");
        x.sheet(0, 2, 5);
        check.due("hearer -1", x.borne(-1, 0, 0, 2, 0, 1, 0), -1);
        check.due("hearer 1", x.borne(1, 0, 0, 2, 0, 1, 0), -1);
        check.due("teller -1", x.borne(0, -1, 0, 2, 0, 1, 0), -1);
        check.due("teller 1", x.borne(0, 1, 0, 2, 0, 1, 2), -1);
        check.due("sheet -1", x.borne(0, 0, -1, 2, 0, 1, 0), -1);
        check.due("sheet 4", x.borne(0, 0, 4, 2, 0, 1, 0), -1);
        check.due("lane -1", x.borne(0, 0, 0, -1, 0, 1, 0), -1);
        check.due("lane 4", x.borne(0, 0, 0, 4, 0, 1, 0), -1);
        check.due("n 0", x.borne(0, 0, 0, 2, 0, 0, 0), -1);
        check.due("n 9", x.borne(0, 0, 0, 2, 0, 9, 0), -1);
        check.due("what -1", x.borne(0, 0, 0, 2, 0, 1, -1), -1);
        check.due("what 3", x.borne(0, 0, 0, 2, 0, 1, 3), -1);
        check.due("BAD ahead of NULL", x.borne(0, 0, 1, 2, 0, 9, 0), -1);
        check.due("NULL ahead of INDEX", x.borne(0, 0, 1, 2, 9, 1, 0), -11);
        check.due("CAST ahead of INDEX", x.borne(0, 0, 0, 1, 9, 1, 0), -12);
        check.due("i -1", x.borne(0, 0, 0, 2, -1, 1, 0), -13);
        check.due("i 5", x.borne(0, 0, 0, 2, 5, 1, 0), -13);
        check.due("i 1, n 5", x.borne(0, 0, 0, 2, 1, 5, 0), -13);
        check.due("i 0, n 5", x.borne(0, 0, 0, 2, 0, 5, 0), 0);
        check.due("i most", x.borne(0, 0, 0, 2, MOST, 8, 0), -13);
        check.due("i least", x.borne(0, 0, 0, 2, LEAST, 8, 0), -13);
    }

    private static void promise31Film() {
        DullEvenings x = Check.told("60;p4,d1");
        for (int lane = 0; lane < 4; lane++) {
            x.sheet(lane, lane, 24);
            check.due("film(24) in lane " + lane, x.film(0, 24, lane, lane, 0), 24);
            check.due("film(8) in lane " + lane, x.film(0, 8, lane, lane, 3), 8);
            check.due("behind 1, 2, ..", x.borne(0, 0, lane, lane, 3, 8, 1), 1 << 4);
            check.due("what stands ahead of it", x.borne(0, 0, lane, lane, 0, 3, 1), 1 << 4);
        }
        check.due("nothing is changed", x.count(3) + x.count(8), 0);
        x.sheet(0, 2, 5);
        check.due("hearer -1", x.film(-1, 1, 0, 2, 0), -1);
        check.due("hearer 1", x.film(1, 1, 0, 2, 0), -1);
        check.due("n 0", x.film(0, 0, 0, 2, 0), -1);
        check.due("n 25", x.film(0, 25, 0, 2, 0), -1);
        check.due("sheet -1", x.film(0, 1, -1, 2, 0), -1);
        check.due("sheet 4", x.film(0, 1, 4, 2, 0), -1);
        check.due("lane -1", x.film(0, 1, 0, -1, 0), -1);
        check.due("lane 4", x.film(0, 1, 0, 4, 0), -1);
        check.due("CAST", x.film(0, 9, 0, 3, 9), -12);
        check.due("INDEX", x.film(0, 6, 0, 2, 0), -13);
        check.due("INDEX", x.film(0, 2, 0, 2, 4), -13);
        check.due("INDEX", x.film(0, 1, 0, 2, -1), -13);
        check.due("INDEX", x.film(0, 1, 0, 2, MOST), -13);
        check.due("just so", x.film(0, 5, 0, 2, 0), 5);
        x.drop(0);
        check.due("NULL", x.film(0, 9, 0, 3, 9), -11);

        DullEvenings y = Check.told("20;p4");
        row(y, 0, 1, 16, 99);
        check.due("refused", y.film(0, 2, 0, 1, 1), -13);
        check.due("changes nothing", y.borne(0, 0, 0, 1, 0, 1, 1), 1 << 4);
        check.due("nor that", y.item(0, 1, 1, 12), 1);
        check.due("as was there", y.borne(0, 0, 0, 1, 0, 2, 1), 1 << 4);
    }

    private static void promise32Sheet() {
        DullEvenings x = Check.told("20-20;p4,p20");
        check.due("sheet(-1, 0, 1)", x.sheet(-1, 0, 1), -1);
        check.due("sheet(4, 0, 1)", x.sheet(4, 0, 1), -1);
        check.due("sheet(0, -1, 1)", x.sheet(0, -1, 1), -1);
        check.due("sheet(0, 4, 1)", x.sheet(0, 4, 1), -1);
        check.due("sheet(0, 0, 25)", x.sheet(0, 0, 25), -1);
        check.due("sheet(0, 0, -1)", x.sheet(0, 0, -1), -14);
        check.due("sheet(0, 0, least)", x.sheet(0, 0, LEAST), -14);
        check.due("BAD ahead of SIZE", x.sheet(4, 0, -1), -1);
        check.due("still nothing", x.drop(0), -11);
        check.due("sheet(0, 0, 0)", x.sheet(0, 0, 0), 0);
        check.due("no items", x.item(0, 0, 0, 1), -13);
        check.due("sheet(0, 2, 24)", x.sheet(0, 2, 24), 24);
        check.due("its last", x.item(0, 2, 23, 1), 1);
        check.due("a new row of zeros", x.borne(0, 0, 0, 2, 0, 8, 1), 0x1ffffe);
        check.due("item", x.item(0, 2, 0, 7), 1);
        check.due("not zeros now", x.borne(0, 0, 0, 2, 0, 8, 1), 0);
        check.due("a refused sheet", x.sheet(0, 1, -1), -14);
        check.due("changes nothing", x.item(0, 2, 23, 1), 1);
        check.due("another row", x.sheet(0, 2, 8), 8);
        check.due("is new", x.borne(0, 0, 0, 2, 0, 8, 1), 0x1ffffe);
        check.due("has its length", x.item(0, 2, 8, 1), -13);
    }

    private static void promise33Drop() {
        DullEvenings x = new DullEvenings();
        check.due("drop(-1)", x.drop(-1), -1);
        check.due("drop(4)", x.drop(4), -1);
        check.due("drop(3)", x.drop(3), -11);
        x.sheet(3, 3, 7);
        x.sheet(2, 3, 0);
        check.due("drop(3)", x.drop(3), 7);
        check.due("drop(3)", x.drop(3), -11);
        check.due("drop(2)", x.drop(2), 0);
        check.due("drop(2)", x.drop(2), -11);
    }

    private static void promise34Item() {
        DullEvenings x = new DullEvenings();
        check.due("NULL", x.item(0, 2, 9, 1), -11);
        x.sheet(0, 2, 3);
        check.due("sheet -1", x.item(-1, 2, 0, 1), -1);
        check.due("sheet 4", x.item(4, 2, 0, 1), -1);
        check.due("lane -1", x.item(0, -1, 0, 1), -1);
        check.due("lane 4", x.item(0, 4, 0, 1), -1);
        check.due("CAST", x.item(0, 3, 9, 1), -12);
        check.due("INDEX", x.item(0, 2, 3, 1), -13);
        check.due("INDEX", x.item(0, 2, -1, 1), -13);
        check.due("INDEX", x.item(0, 2, MOST, 1), -13);
        check.due("INDEX", x.item(0, 2, LEAST, 1), -13);
        check.due("item", x.item(0, 2, 2, Long.MIN_VALUE), 1);
    }

    private static void promise34LowestBits() {
        DullEvenings x = Check.told("20;p4");
        int[] bits = {8, 16, 32, 64};
        for (int lane = 0; lane < 4; lane++) {
            x.sheet(0, lane, 1);
            for (int high = 8; high < 64; high++) {
                x.item(0, lane, 0, (1L << high) + 16);
                boolean isSixteen = high >= bits[lane];
                check.due("bit " + high + " in lane " + lane, x.borne(0, 0, 0, lane, 0, 1, 1), isSixteen ? 1 << 4 : 0);
            }
            x.item(0, lane, 0, 16 - (lane == 3 ? 0 : 1L << bits[lane]));
            check.due("a number below 0 in lane " + lane, x.borne(0, 0, 0, lane, 0, 1, 1), 1 << 4);
        }
    }

    private static void promise35Copy() {
        DullEvenings x = Check.told("60;p4");
        x.sheet(0, 2, 8);
        x.sheet(1, 2, 5);
        x.sheet(2, 1, 9);
        check.due("from -1", x.copy(-1, 0, 1, 0, 1), -1);
        check.due("from 4", x.copy(4, 0, 1, 0, 1), -1);
        check.due("to -1", x.copy(0, 0, -1, 0, 1), -1);
        check.due("to 4", x.copy(0, 0, 4, 0, 1), -1);
        check.due("NULL from", x.copy(3, 9, 0, 9, 1), -11);
        check.due("NULL to", x.copy(0, 9, 3, 9, 1), -11);
        check.due("CAST", x.copy(0, 99, 2, 99, 1), -12);
        check.due("i -1", x.copy(0, -1, 1, 0, 1), -13);
        check.due("j -1", x.copy(0, 0, 1, -1, 1), -13);
        check.due("n -1", x.copy(0, 0, 1, 0, -1), -13);
        check.due("n least", x.copy(0, 0, 1, 0, LEAST), -13);
        check.due("too many from", x.copy(1, 1, 0, 0, 5), -13);
        check.due("too many to", x.copy(0, 0, 1, 1, 5), -13);
        check.due("i most", x.copy(0, MOST, 1, 0, 1), -13);
        check.due("n most", x.copy(0, 1, 1, 1, MOST), -13);
        check.due("none at the ends", x.copy(0, 8, 1, 5, 0), 0);
        check.due("none behind the end", x.copy(0, 9, 1, 5, 0), -13);
        check.due("none behind the other's end", x.copy(0, 8, 1, 6, 0), -13);
        x.film(0, 8, 0, 2, 0);
        check.due("copy", x.copy(0, 0, 1, 1, 4), 4);
        check.due("came", x.borne(0, 0, 1, 2, 1, 4, 1), 1 << 4);
        check.due("stays where it was", x.borne(0, 0, 0, 2, 0, 8, 1), 1 << 4);
        check.due("refused", x.copy(1, 0, 0, 4, 5), -13);
        check.due("changes nothing", x.borne(0, 0, 0, 2, 0, 8, 1), 1 << 4);
        check.due("one more to the left", x.copy(0, 0, 1, 0, 1), 1);
        check.due("not so now", x.borne(0, 0, 1, 2, 0, 2, 1), 0);
    }

    private static void promise35Overlap() {
        DullEvenings x = Check.told("10;p1");
        x.sheet(0, 0, 6);
        x.film(0, 6, 0, 0, 0);
        check.due("to the right", x.copy(0, 0, 0, 1, 4), 4);
        check.due("as if taken ahead", x.borne(0, 0, 0, 0, 1, 4, 0), 1);
        check.due("the first stays", x.borne(0, 0, 0, 0, 0, 1, 1), 2);
        x.film(0, 6, 0, 0, 0);
        check.due("to the left", x.copy(0, 1, 0, 0, 5), 5);
        x.evenings(1);
        check.due("as if taken ahead", x.borne(0, 0, 0, 0, 0, 5, 0), 1);
    }
}
