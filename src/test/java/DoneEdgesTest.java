/** The boundary cases of promises 1 to 3 and 9 to 17: people, evenings, draws, and what is undone. */
public final class DoneEdgesTest {
    private static final int NOT = -2, FULL = -3, NONE = -4;
    private static final int MOST = Integer.MAX_VALUE;
    private static final Check check = new Check("DoneEdgesTest");

    public static void main(String[] args) {
        anEmptyList();
        turnIsZeroThen();
        manyEvenings();
        lastEvening();
        restsAndSpins();
        stepsAndTurns();
        aDriftAndItsRest();
        driftOfNobody();
        theDrawsBits();
        countsOfAll();
        whoIsRested();
        restedAheadOfTheEvening();
        seeds();
        eightAreKnown();
        undoneAsAhead();
        undoneWithTheDraw();
        undoneWhateverWasTold();
        nothingToBeUndone();
        whatIsNoneOfThem();
        check.end();
    }

    private static void anEmptyList() {
        check.sentence("Promise 1: An empty list");
        DullEvenings x = new DullEvenings();
        int[] counts = {0, 0, 0, 0, 0, 1, 0, 0, 0};
        for (int what = 0; what <= 8; what++) {
            check.due("count(" + what + ")", x.count(what), counts[what]);
        }
        for (int sheet = 0; sheet < 4; sheet++) {
            check.due("drop(" + sheet + ")", x.drop(sheet), -11);
        }
        check.due("THE TAPE is empty", x.list(), -20);
        check.due("THE DRAW", x.seed(1), 1);
        check.due("no IMAGE", x.restore(), NONE);
        check.due("nothing known", x.undo(), NONE);
        check.due("an evening", x.evenings(1), 0);
        check.due("undone", x.undo(), 0);
        check.due("EVENING", x.count(3), 0);
    }

    private static void turnIsZeroThen() {
        check.sentence("Promise 2: TURN is 0 then");
        DullEvenings x = Check.told("9,9,9;p1");
        x.turn(2);
        check.due("teller", x.teller(0, 1), 1);
        check.due("TURN", x.count(4), 0);
        check.due("STEP stays", x.count(5), 1);
        x.evenings(1);
        check.due("TURN behind an evening", x.count(4), 1);
        check.due("teller", x.teller(0, 1), 2);
        check.due("TURN", x.count(4), 0);
        check.due("the EVENING stays", x.count(3), 1);
        check.sentence("Promise 3: TURN is 0 then");
        x.turn(1);
        check.due("hearer", x.hearer(9), 3);
        check.due("TURN", x.count(4), 0);
        check.due("SEATS", x.count(2), 4);
        check.due("what was HEARD stays", x.count(6), 2);
    }

    private static void manyEvenings() {
        check.sentence("Promise 10: n EVENINGS (1 .. 40; each by itself may be UNDONE): how often any LOOKED in them");
        DullEvenings x = Check.told("1,1,1,1,1;p2,p2,p2,p2,p2");
        check.due("evenings(1)", x.evenings(1), 5);
        check.due("evenings(40)", x.evenings(40), 200);
        check.due("EVENING", x.count(3), 41);
        check.due("only in them", x.evenings(2), 10);
        check.due("in all", x.count(7), 215);
        DullEvenings y = Check.told("60;p1");
        y.evenings(3);
        for (int n = 2; n >= 0; n--) {
            check.due("undo()", y.undo(), n);
            check.due("EVENING", y.count(3), n);
            check.due("BEARS", y.at(0, 1), 60 - n);
        }
        check.due("undo()", y.undo(), NONE);
    }

    private static void lastEvening() {
        check.sentence("Promises 10, 15: FULL: the EVENING would be above 9999");
        DullEvenings x = Check.inTheLastEvening(9, 0, 9);
        for (int i = 0; i < 8; i++) {
            x.undo();
        }
        check.due("EVENING", x.count(3), 9991);
        check.due("evenings(9)", x.evenings(9), FULL);
        check.due("drift(9)", x.drift(9), FULL);
        check.due("evenings(40)", x.evenings(40), FULL);
        check.due("EVENING stays", x.count(3), 9991);
        check.due("evenings(7)", x.evenings(7), 7);
        check.due("EVENING", x.count(3), 9998);
        check.due("evenings(2)", x.evenings(2), FULL);
        check.due("drift(2)", x.drift(2), FULL);
        check.due("drift(1)", x.drift(1) < 0 ? 1 : 0, 0);
        check.due("EVENING", x.count(3), 9999);
        check.due("drift(1)", x.drift(1), FULL);
        check.due("rests go on", x.rest(0, 1) >= 0 ? 1 : 0, 1);
        check.due("a list begins anew", Check.tell(x, "9;p9"), 1);
        check.due("EVENING", x.count(3), 0);
        check.due("evenings(40)", x.evenings(40), 39);
        check.sentence("what is FORETOLD goes on behind EVENING 9999");
        DullEvenings y = Check.inTheLastEvening(60, 2, 20);
        y.rest(0, 60);
        int[] bears = {60, 50, 30, 20, 0, 0};
        for (int n = 0; n < bears.length; n++) {
            check.due("BEARS behind " + n, y.ahead(0, n, 0), bears[n]);
        }
        check.due("ahead(0, 60, 1)", y.ahead(0, 60, 1) - y.at(0, 2), 56);
        check.due("first(0)", y.first(0), 5);
        check.due("pace(40, 1)", y.pace(40, 1), 4);
        check.due("EVENING stays", y.count(3), 9999);
    }

    private static void restsAndSpins() {
        check.sentence("Promise 11: NOT: he BEARS MOST");
        DullEvenings x = Check.told("60-1;p19");
        check.due("rest by 1", x.rest(0, 1), 60);
        check.due("rest again", x.rest(0, 1), NOT);
        check.due("one to be undone", x.count(8), 1);
        x.evenings(1);
        check.due("rest by 60", x.rest(0, 60), 60);
        DullEvenings y = Check.told("1-1;p19");
        check.due("MOST of 1", y.rest(0, 60), 1);
        check.due("MOST of 1 again", y.rest(0, 60), NOT);
        check.sentence("Promise 12: NOT: it is LONG by 20");
        check.due("spin by 1", x.spin(0, 1), 20);
        check.due("spin again", x.spin(0, 1), NOT);
        check.due("undone", x.undo(), 3);
        check.due("spin by 20", x.spin(0, 20), 20);
    }

    private static void stepsAndTurns() {
        check.sentence("Promise 13: STEPPED: STEP as it was. NOT: it is so");
        DullEvenings x = new DullEvenings();
        int before = 1;
        int[] steps = {0, 4, 3, 2, 1};
        for (int v : steps) {
            check.due("step(" + v + ")", x.step(v), before);
            check.due("STEP", x.count(5), v);
            check.due("step(" + v + ") again", x.step(v), NOT);
            before = v;
        }
        check.due("each to be undone", x.count(8), 5);
        check.sentence("Promise 14: TURNED: TURN as it was. NOT: it is so");
        DullEvenings y = Check.told("1,1,1,1,1;p1");
        before = 0;
        int[] turns = {4, 3, 1, 2, 0};
        for (int v : turns) {
            check.due("turn(" + v + ")", y.turn(v), before);
            check.due("TURN", y.count(4), v);
            check.due("turn(" + v + ") again", y.turn(v), NOT);
            before = v;
        }
        check.due("each to be undone", y.count(8), 5);
        check.due("turn(5)", y.turn(5), -1);
        DullEvenings one = Check.told("1;p1");
        check.due("one SEAT: turn(0)", one.turn(0), NOT);
        check.due("one SEAT: turn(1)", one.turn(1), -1);
    }

    private static void aDriftAndItsRest() {
        check.sentence("Promise 15: A DRIFT of n EVENINGS (1 .. 40; each with its rest one that may be UNDONE)");
        DullEvenings x = Check.told("40-20,40-20;p1,p1");
        x.drift(3);
        check.due("three to be undone", x.count(8), 3);
        int[] bears = {x.at(0, 1), x.at(1, 1)};
        DullEvenings y = Check.told("40-20,40-20;p1,p1");
        y.drift(2);
        check.due("undo()", x.undo(), 2);
        check.due("BEARS 0 as behind two", x.at(0, 1), y.at(0, 1));
        check.due("BEARS 1 as behind two", x.at(1, 1), y.at(1, 1));
        check.due("drift again", x.drift(1), 0);
        check.due("BEARS 0 by the same draw", x.at(0, 1), bears[0]);
        check.due("BEARS 1 by the same draw", x.at(1, 1), bears[1]);
        DullEvenings z = Check.told("1,1;p20,p20");
        check.due("drift(40)", z.drift(40), 80);
        check.due("EVENING", z.count(3), 40);
        check.due("eight to be undone", z.count(8), 8);
        check.due("drift(1)", z.drift(1), 2);
    }

    private static void driftOfNobody() {
        check.sentence("if there are HEARERS, the one ... is RESTED");
        DullEvenings x = new DullEvenings();
        check.due("drift(40) of an empty list", x.drift(40), 0);
        check.due("EVENING", x.count(3), 40);
        DullEvenings y = new DullEvenings();
        y.teller(0, 5);
        check.due("drift(2) of a teller", y.drift(2), 0);
        check.due("THE DRAW became another twice", y.seed(1), draw(draw(1)));
    }

    private static long draw(long before) {
        return (before * 1103515245L + 12345L) % 2147483648L;
    }

    private static void theDrawsBits() {
        check.sentence("THE DRAW: the lowest 31 bits of itself times 1103515245 and 12345 more");
        int[] seeds = {0, 1, 2, 12345, 65535, 65536, 1 << 30, MOST - 1, MOST};
        for (int seed : seeds) {
            DullEvenings x = Check.told("60;p1");
            x.seed(seed);
            long due = seed;
            for (int i = 0; i < 5; i++) {
                due = draw(due);
                x.drift(1);
                int now = x.seed(1);
                check.due("from " + seed + ", draw " + i, now, due);
                x.seed(now);
            }
        }
        DullEvenings y = Check.told("60;p1");
        check.due("1 at first", y.seed(1), 1);
        y.evenings(40);
        check.due("evenings don't draw", y.seed(1), 1);
    }

    private static void countsOfAll() {
        check.sentence("Promise 9: 6 all that was HEARD, 7 how often all LOOKED, 8 what may be UNDONE");
        DullEvenings x = Check.told("60,60,60,60,60;p1,p1,p1,p1,p1");
        x.evenings(40);
        check.due("HEARD behind 40", x.count(6), 200);
        x.evenings(5);
        check.due("HEARD behind 45", x.count(6), 225);
        x.evenings(5);
        check.due("9 at most by each of each", x.count(6), 225);
        check.due("none LOOKED", x.count(7), 0);
        x.evenings(10);
        check.due("none LOOKED behind 60", x.count(7), 0);
        x.evenings(40);
        check.due("all LOOKED since", x.count(7), 200);
        check.due("eight to be undone", x.count(8), 8);
        DullEvenings y = new DullEvenings();
        y.evenings(40);
        check.due("nobody HEARD", y.count(6), 0);
        check.due("nobody LOOKED", y.count(7), 0);
    }

    private static void whoIsRested() {
        check.sentence("the one that it is by 65536, left over by how many there are, is RESTED by it by 128, "
            + "left over by 6");
        for (int hearers = 1; hearers <= 5; hearers++) {
            for (int seed = 0; seed < 40; seed++) {
                DullEvenings x = Check.told(listOfTired(hearers));
                x.seed(seed);
                x.drift(1);
                long draw = draw(seed);
                int who = (int) (draw / 65536 % hearers);
                int more = (int) (draw / 128 % 6);
                for (int h = 0; h < hearers; h++) {
                    // The first has the only tale then, which costs 1; all else have none.
                    int rested = h == who ? more : 0;
                    int due = h == 0 ? Math.max(0, rested - 1) : rested + 5;
                    check.due("hearer " + h + " of " + hearers + " by " + seed, x.at(h, 1), due);
                }
            }
        }
    }

    private static String listOfTired(int hearers) {
        StringBuilder text = new StringBuilder("60-60");
        for (int h = 1; h < hearers; h++) {
            text.append(",60-60");
        }
        return text.append(";p1").toString();
    }

    private static void restedAheadOfTheEvening() {
        check.sentence("ahead of each EVENING of a DRIFT it becomes .. RESTED");
        // By 1 the rest is one of 5: just what the tale costs.
        check.due("5 of 5", Check.told("9-9;p5").drift(1), 0);
        check.due("6 of 5", Check.told("9-9;p6").drift(1), 1);
        DullEvenings most = Check.told("9-2;p1");
        most.drift(1);
        check.due("MOST at most, ahead of the tale", most.at(0, 1), 8);
        DullEvenings umbrella = Check.told("60-55;u3");
        umbrella.drift(1);
        check.due("BEARS 10 by the rest, so not 3 more", umbrella.at(0, 1), 7);
        DullEvenings fresh = Check.told("9;p1");
        fresh.drift(1);
        check.due("who BEARS MOST is no cause to refuse", fresh.at(0, 1), 8);
    }

    private static void seeds() {
        check.sentence("Promise 17: THE DRAW becomes v: what it was. BAD: below 0");
        DullEvenings x = new DullEvenings();
        check.due("seed(0)", x.seed(0), 1);
        check.due("seed(most)", x.seed(MOST), 0);
        check.due("seed(-1)", x.seed(-1), -1);
        check.due("seed(1)", x.seed(1), MOST);
        check.due("seed(1) again", x.seed(1), 1);
        check.due("nothing to be undone", x.undo(), NONE);
    }

    private static void eightAreKnown() {
        check.sentence("UNDONE: (8 are known, older ones lost)");
        for (int done = 0; done <= 20; done++) {
            DullEvenings x = Check.told("60;p1");
            for (int i = 0; i < done; i++) {
                x.evenings(1);
            }
            int known = Math.min(8, done);
            check.due("known of " + done, x.count(8), known);
            for (int i = known - 1; i >= 0; i--) {
                check.due("undo()", x.undo(), i);
                check.due("count(8)", x.count(8), i);
            }
            check.due("EVENING", x.count(3), done - known);
            check.due("BEARS", x.at(0, 1), 60 - (done - known));
            check.due("undo()", x.undo(), NONE);
            check.due("EVENING stays", x.count(3), done - known);
        }
        DullEvenings y = Check.told("60;p1");
        check.due("forty at once", y.evenings(40), 0);
        check.due("known", y.count(8), 8);
        y.undo();
        y.undo();
        y.step(0);
        check.due("seven again", y.count(8), 7);
        y.step(1);
        y.step(2);
        check.due("eight again", y.count(8), 8);
        for (int i = 7; i >= 0; i--) {
            check.due("undo()", y.undo(), i);
        }
        check.due("EVENING", y.count(3), 33);
    }

    private static void undoneAsAhead() {
        check.sentence("UNDONE: what all BEAR, how LONG tales are, all that is counted, TURN, STEP, the EVENING "
            + "are as ahead of it");
        DullEvenings x = Check.told("9,60-6;p6,d4");
        x.evenings(1);
        x.rest(0, 1);
        x.spin(1, 16);
        x.step(4);
        x.turn(0);
        x.evenings(1);
        check.due("LOOKED", x.at(0, 2), 1);
        check.due("undo()", x.undo(), 5);
        int[] bears = {4, 50};
        state(x, bears, 1, 20, 4, 0);
        check.due("undo()", x.undo(), 4);
        state(x, bears, 1, 20, 4, 1);
        check.due("undo()", x.undo(), 3);
        state(x, bears, 1, 20, 1, 1);
        check.due("undo()", x.undo(), 2);
        state(x, bears, 1, 4, 1, 1);
        check.due("undo()", x.undo(), 1);
        state(x, new int[] {3, 50}, 1, 4, 1, 1);
        check.due("HEARD", x.count(6), 2);
        check.due("undo()", x.undo(), 0);
        state(x, new int[] {9, 54}, 0, 4, 1, 0);
        check.due("HEARD none", x.count(6), 0);
    }

    private static void state(DullEvenings x, int[] bears, int evening, int lasts, int step, int turn) {
        check.due("BEARS 0", x.at(0, 1), bears[0]);
        check.due("BEARS 1", x.at(1, 1), bears[1]);
        check.due("LOOKED", x.count(7), 0);
        check.due("EVENING", x.count(3), evening);
        check.due("LONG", x.of(1, 1), lasts);
        check.due("STEP", x.count(5), step);
        check.due("TURN", x.count(4), turn);
    }

    private static void undoneWithTheDraw() {
        check.sentence("UNDONE: THE DRAW is as ahead of it");
        DullEvenings x = Check.told("60-9;p1");
        x.seed(500);
        x.drift(1);
        x.undo();
        check.due("ahead of a drift", x.seed(500), 500);
        x.rest(0, 1);
        x.seed(600);
        x.undo();
        check.due("ahead of a rest", x.seed(500), 500);
        x.spin(0, 1);
        x.seed(600);
        x.undo();
        check.due("ahead of a spin", x.seed(500), 500);
        x.step(0);
        x.seed(600);
        x.undo();
        check.due("ahead of a step", x.seed(500), 500);
        x.evenings(1);
        x.seed(600);
        x.evenings(1);
        x.seed(700);
        x.undo();
        check.due("ahead of the second evening", x.seed(800), 600);
        x.undo();
        check.due("ahead of the first evening", x.seed(1), 500);
    }

    private static void undoneWhateverWasTold() {
        check.sentence("UNDONE: whatever was told since");
        DullEvenings x = Check.told("60-9;p1");
        x.evenings(1);
        x.seed(5);
        x.type('9');
        x.sheet(0, 0, 3);
        x.image();
        Check.tell(x, "x");
        check.due("undo()", x.undo(), 0);
        check.due("EVENING", x.count(3), 0);
        check.due("THE DRAW", x.seed(1), 1);
        check.due("sheets stay", x.drop(0), 3);
        check.due("the IMAGE stays", x.restore(), 1);
        check.due("EVENING of the IMAGE", x.count(3), 1);
        check.due("to be undone as then", x.undo(), 0);
    }

    private static void nothingToBeUndone() {
        check.sentence("a LIST told, a new TELLER, HEARER leave nothing to be UNDONE");
        DullEvenings x = Check.told("60-9;p1");
        x.evenings(9);
        check.due("hearer", x.hearer(5), 1);
        check.due("count(8)", x.count(8), 0);
        check.due("undo()", x.undo(), NONE);
        x.evenings(9);
        check.due("teller", x.teller(0, 5), 1);
        check.due("count(8)", x.count(8), 0);
        check.due("undo()", x.undo(), NONE);
        x.evenings(9);
        check.due("list", Check.tell(x, "60;p1"), 1);
        check.due("count(8)", x.count(8), 0);
        check.due("undo()", x.undo(), NONE);
        x.evenings(1);
        check.due("one is known then", x.undo(), 0);
        check.due("and no older one", x.undo(), NONE);
        x.evenings(3);
        check.due("a refused teller", x.teller(5, 5), -1);
        check.due("a refused hearer", x.hearer(0), -1);
        check.due("a fault", Check.tell(x, "60;q1"), -23);
        check.due("leave what is known", x.undo(), 2);
    }

    private static void whatIsNoneOfThem() {
        check.sentence("UNDONE: the latest EVENING, RESTED, SPUN out, STEPPED, TURNED (what is refused is none)");
        DullEvenings x = Check.told("60-9,9;p1,p20");
        x.step(2);
        x.step(2);
        x.turn(0);
        x.turn(2);
        x.rest(1, 5);
        x.spin(1, 5);
        x.evenings(41);
        x.drift(0);
        x.ahead(0, 60, 0);
        x.seed(6);
        check.due("only the step", x.count(8), 1);
        check.due("undo()", x.undo(), 0);
        check.due("STEP", x.count(5), 1);
    }
}
