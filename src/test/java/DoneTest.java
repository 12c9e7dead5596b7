/** Promises 10 to 17: what is done, by draws, and undone. */
public final class DoneTest {
    private static final Check check = new Check("DoneTest");

    public static void main(String[] args) {
        promise10Evenings();
        promise10And15Full();
        promise11Rest();
        promise12Spin();
        promise13Step();
        promise14Turn();
        promise15Drift();
        promise16Undo();
        promise16WhatLeavesNothing();
        promise17Seed();
        check.end();
    }

    private static void promise10Evenings() {
        DullEvenings x = Check.told("30,12-9,20-2;p5,p4!2");
        check.due("evenings(0)", x.evenings(0), -1);
        check.due("evenings(41)", x.evenings(41), -1);
        check.due("evenings(-1)", x.evenings(-1), -1);
        check.due("refused: the evening", x.count(3), 0);
        // Hearer 0 hears 0, hearer 1 can't bear 1 (4 above 3), hearer 2 has nobody.
        check.due("evenings(1)", x.evenings(1), 1);
        check.due("who heard", x.at(0, 1), 25);
        check.due("who looked bears 0", x.at(1, 1), 0);
        check.due("who looked has not heard", x.heard(1, 1), 0);
        check.due("who has none, MOST at most", x.at(2, 1), 20);
        check.due("TURN is STEP more", x.count(4), 2);
        // TURN 2: teller 0 at seat 2, teller 1 at seat 0; hearer 1 has nobody.
        check.due("evenings(1)", x.evenings(1), 0);
        check.due("hearer 0 heard 1", x.at(0, 1), 21);
        check.due("hearer 1 bears 5 more", x.at(1, 1), 5);
        check.due("hearer 2 heard 0", x.at(2, 1), 15);
        check.due("TURN is left over by seats", x.count(4), 1);
        check.due("each may be undone", x.count(8), 2);
        check.due("as much as he bears is heard", Check.told("5;p5").evenings(1), 0);
        check.due("evenings(40)", Check.told("4;p5").evenings(40), 40);
        DullEvenings y = new DullEvenings();
        check.due("evenings of nobody", y.evenings(40), 0);
        check.due("their TURN", y.count(4), 0);
        check.due("their EVENING", y.count(3), 40);
        DullEvenings z = Check.told("9,9;p1,p1!4");
        z.evenings(1);
        check.due("STEP 4 of two seats", z.count(4), 0);
    }

    private static void promise10And15Full() {
        DullEvenings x = Check.told("5;p5");
        for (int i = 0; i < 249; i++) {
            x.evenings(40);
        }
        check.due("the evening", x.count(3), 9960);
        check.due("how often he looked", x.at(0, 2), 9959);
        check.due("evenings(40) is FULL", x.evenings(40), -3);
        check.due("drift(40) is FULL", x.drift(40), -3);
        check.due("THE DRAW stays", x.seed(1), 1);
        check.due("BAD ahead of FULL", x.evenings(41), -1);
        check.due("BAD ahead of FULL", x.drift(41), -1);
        check.due("evenings(39)", x.evenings(39), 39);
        check.due("the last evening", x.count(3), 9999);
        check.due("evenings(1) is FULL", x.evenings(1), -3);
        check.due("drift(1) is FULL", x.drift(1), -3);
        check.due("foretold all the same", x.ahead(0, 60, 1), 9998 + 60);
        check.due("undo()", x.undo(), 7);
        check.due("drift(1)", x.drift(1) >= 0 ? 1 : 0, 1);
        check.due("the last evening", x.count(3), 9999);
    }

    private static void promise11Rest() {
        DullEvenings x = Check.told("60-60,7;p1");
        check.due("rest(-1, 1)", x.rest(-1, 1), -1);
        check.due("rest(2, 1)", x.rest(2, 1), -1);
        check.due("rest(0, 0)", x.rest(0, 0), -1);
        check.due("rest(0, 61)", x.rest(0, 61), -1);
        check.due("rest(1, 61)", x.rest(1, 61), -1);
        check.due("rest(1, 1)", x.rest(1, 1), -2);
        check.due("refused: nothing to be undone", x.count(8), 0);
        check.due("rest(0, 1)", x.rest(0, 1), 1);
        check.due("rest(0, 58)", x.rest(0, 58), 59);
        check.due("rest(0, 60)", x.rest(0, 60), 60);
        check.due("rest(0, 60)", x.rest(0, 60), -2);
        check.due("what may be undone", x.count(8), 3);
        check.due("no evening", x.count(3), 0);
        x.undo();
        check.due("undone", x.at(0, 1), 59);
    }

    private static void promise12Spin() {
        DullEvenings x = Check.told("60;p1,d20");
        check.due("spin(-1, 1)", x.spin(-1, 1), -1);
        check.due("spin(2, 1)", x.spin(2, 1), -1);
        check.due("spin(0, 0)", x.spin(0, 0), -1);
        check.due("spin(0, 21)", x.spin(0, 21), -1);
        check.due("spin(1, 21)", x.spin(1, 21), -1);
        check.due("spin(1, 1)", x.spin(1, 1), -2);
        check.due("spin(0, 3)", x.spin(0, 3), 4);
        check.due("LONG", x.of(0, 1), 4);
        check.due("COSTS", x.of(0, 4), 4);
        check.due("spin(0, 20)", x.spin(0, 20), 20);
        check.due("spin(0, 20)", x.spin(0, 20), -2);
        check.due("what may be undone", x.count(8), 2);
        x.undo();
        check.due("undone", x.of(0, 1), 4);
    }

    private static void promise13Step() {
        DullEvenings x = Check.told("60;p1!3");
        check.due("step(-1)", x.step(-1), -1);
        check.due("step(5)", x.step(5), -1);
        check.due("step(3)", x.step(3), -2);
        check.due("step(4)", x.step(4), 3);
        check.due("step(0)", x.step(0), 4);
        check.due("STEP", x.count(5), 0);
        check.due("what may be undone", x.count(8), 2);
        x.undo();
        check.due("undone", x.count(5), 4);
    }

    private static void promise14Turn() {
        DullEvenings x = new DullEvenings();
        check.due("no seats: turn(0)", x.turn(0), -1);
        Check.tell(x, "60;p1,p2,p3");
        check.due("turn(-1)", x.turn(-1), -1);
        check.due("turn(3)", x.turn(3), -1);
        check.due("turn(0)", x.turn(0), -2);
        check.due("turn(2)", x.turn(2), 0);
        check.due("turn(1)", x.turn(1), 2);
        check.due("whom he has", x.at(0, 3), 2);
        check.due("what may be undone", x.count(8), 2);
        x.undo();
        check.due("undone", x.count(4), 2);
        check.due("whom he has", x.at(0, 3), 1);
    }

    private static void promise15Drift() {
        DullEvenings x = Check.told("10-10;p1");
        check.due("drift(0)", x.drift(0), -1);
        check.due("drift(41)", x.drift(41), -1);
        // 1 becomes 1103527590: by 128 and left over by 6 it is 5.
        check.due("drift(1)", x.drift(1), 0);
        check.due("rested by 5, ahead of the evening", x.at(0, 1), 4);
        check.due("one that may be undone", x.count(8), 1);
        check.due("THE DRAW", x.seed(0), 1103527590);
        check.due("drift(1) by 0", x.drift(1), 0);
        check.due("rested by 0", x.at(0, 1), 3);
        check.due("THE DRAW", x.seed(12345), 12345);
        x.drift(1);
        check.due("THE DRAW", x.seed(Integer.MAX_VALUE), 1406932606);
        x.drift(1);
        check.due("THE DRAW of 31 bits", x.seed(0), (int) ((2147483647L * 1103515245L + 12345L) & 2147483647L));

        DullEvenings y = Check.told("60-60,60-60,60-60;t1,p20!0");
        long draw = 1;
        int[] bears = new int[3];
        int looks = 0;
        for (int i = 0; i < 12; i++) {
            draw = (draw * 1103515245L + 12345L) % 2147483648L;
            bears[(int) (draw / 65536 % 3)] += draw / 128 % 6;
            int cost = i % 2 == 0 ? 1 : 0;
            looks += bears[0] < cost ? 1 : 0;
            bears[0] = bears[0] < cost ? 0 : bears[0] - cost;
            looks += bears[1] < 20 ? 1 : 0;
            bears[1] = bears[1] < 20 ? 0 : bears[1] - 20;
            bears[2] = Math.min(60, bears[2] + 5);
        }
        check.due("drift(12)", y.drift(12), looks);
        for (int h = 0; h < 3; h++) {
            check.due("BEARS " + h, y.at(h, 1), bears[h]);
        }
        check.due("THE DRAW", y.seed(1), draw);

        DullEvenings w = Check.told("9;p20");
        check.due("looks of a drift", w.drift(3), 3);
        check.due("looks of the next alone", w.drift(2), 2);

        DullEvenings z = new DullEvenings();
        check.due("a drift of nobody", z.drift(1), 0);
        check.due("draws all the same", z.seed(1), 1103527590);
    }

    private static void promise16Undo() {
        DullEvenings x = Check.told("20,20-15;d3,p9!1");
        check.due("none", x.undo(), -4);
        x.seed(5);
        x.drift(1);
        x.seed(99);
        check.due("a drift with its rest", x.undo(), 0);
        check.due("BEARS 0", x.at(0, 1), 20);
        check.due("BEARS 1", x.at(1, 1), 5);
        check.due("HEARD and LOOKED", x.count(6) + x.count(7), 0);
        check.due("the evening", x.count(3), 0);
        check.due("TURN", x.count(4), 0);
        check.due("THE DRAW, whatever was told since", x.seed(1), 5);

        x.evenings(3);
        x.spin(0, 2);
        x.step(4);
        x.turn(0);
        x.rest(1, 3);
        check.due("seven", x.count(8), 7);
        x.evenings(5);
        check.due("eight are known", x.count(8), 8);
        int[] evenings = {7, 6, 5, 4, 3, 3, 3, 3};
        int[] steps = {4, 4, 4, 4, 4, 4, 4, 1};
        int[] turns = {0, 0, 0, 0, 0, 0, 1, 1};
        for (int i = 0; i < 8; i++) {
            check.due("undo " + i, x.undo(), 7 - i);
            check.due("the evening " + i, x.count(3), evenings[i]);
            check.due("STEP " + i, x.count(5), steps[i]);
            check.due("TURN " + i, x.count(4), turns[i]);
            check.due("LONG " + i, x.of(0, 1), 5);
        }
        check.due("older ones are lost", x.undo(), -4);
        check.due("and stay", x.of(0, 1), 5);
        check.due("the evening", x.count(3), 3);
        x.evenings(1);
        check.due("one more", x.count(8), 1);
        check.due("undone too", x.undo(), 0);
    }

    private static void promise16WhatLeavesNothing() {
        DullEvenings x = Check.told("20;p3");
        x.evenings(3);
        x.hearer(5);
        check.due("a new hearer", x.undo(), -4);
        x.evenings(3);
        x.teller(0, 5);
        check.due("a new teller", x.undo(), -4);
        x.evenings(3);
        Check.tell(x, "20;p3");
        check.due("a list", x.undo(), -4);
        x.evenings(3);
        Check.tell(x, "20;p");
        check.due("a fault leaves all", x.undo(), 2);
    }

    private static void promise17Seed() {
        DullEvenings x = Check.told("20;p3");
        check.due("seed(-1)", x.seed(-1), -1);
        check.due("seed(least)", x.seed(Integer.MIN_VALUE), -1);
        check.due("1 at first", x.seed(0), 1);
        check.due("seed(most)", x.seed(Integer.MAX_VALUE), 0);
        check.due("what it was", x.seed(3), Integer.MAX_VALUE);
        check.due("nothing to be undone", x.count(8), 0);
    }
}
