/** Promises 18 to 29: what is foretold, and images. */
public final class ForetoldTest {
    private static final Check check = new Check("ForetoldTest");

    public static void main(String[] args) {
        promise18And19And22AheadThenLeft();
        promise18And19And22Refused();
        promise20First();
        promise21All();
        promise23Pace();
        promise24Seating();
        promise25Needs();
        promise26Spare();
        promise27Doze();
        promise28And29Image();
        nothingIsChanged();
        check.end();
    }

    private static void promise18And19And22AheadThenLeft() {
        String list = "60-9,22,14-1,41;d8,t12,p9,w15,u6!2";
        for (int n = 0; n <= 60; n++) {
            DullEvenings x = Check.told(list);
            x.evenings(1);
            DullEvenings y = Check.told(list);
            y.evenings(1);
            for (int i = 0; i < n; i++) {
                y.evenings(1);
            }
            for (int h = 0; h < 4; h++) {
                check.due("ahead 0 by " + n, x.ahead(h, n, 0), y.at(h, 1));
                check.due("ahead 1 by " + n, x.ahead(h, n, 1), y.at(h, 2));
                check.due("ahead 2 by " + n, x.ahead(h, n, 2), y.at(h, 3));
                check.due("left by " + n, x.left(h, n), 31 & ~y.at(h, 4));
                for (int t = 0; t < 5; t++) {
                    check.due("then by " + n, x.then(h, t, n), y.heard(h, t));
                }
            }
        }
        check.due("whom he has, none", Check.told("5,5;p1").ahead(0, 1, 2), -4);
        check.due("nine at most", Check.told("60;p1").then(0, 0, 20), 9);
    }

    private static void promise18And19And22Refused() {
        DullEvenings x = Check.told("9;p1,p2");
        check.due("ahead(-1, 0, 0)", x.ahead(-1, 0, 0), -1);
        check.due("ahead(1, 0, 0)", x.ahead(1, 0, 0), -1);
        check.due("ahead(0, -1, 0)", x.ahead(0, -1, 0), -1);
        check.due("ahead(0, 61, 0)", x.ahead(0, 61, 0), -1);
        check.due("ahead(0, 0, -1)", x.ahead(0, 0, -1), -1);
        check.due("ahead(0, 0, 3)", x.ahead(0, 0, 3), -1);
        check.due("then(-1, 0, 0)", x.then(-1, 0, 0), -1);
        check.due("then(1, 0, 0)", x.then(1, 0, 0), -1);
        check.due("then(0, -1, 0)", x.then(0, -1, 0), -1);
        check.due("then(0, 2, 0)", x.then(0, 2, 0), -1);
        check.due("then(0, 0, -1)", x.then(0, 0, -1), -1);
        check.due("then(0, 0, 61)", x.then(0, 0, 61), -1);
        check.due("left(-1, 0)", x.left(-1, 0), -1);
        check.due("left(1, 0)", x.left(1, 0), -1);
        check.due("left(0, -1)", x.left(0, -1), -1);
        check.due("left(0, 61)", x.left(0, 61), -1);
        check.due("left(0, 60)", x.left(0, 60), 0);
    }

    private static void promise20First() {
        DullEvenings x = Check.told("12,60,3;p5,p1,p4!0");
        check.due("first(-1)", x.first(-1), -1);
        check.due("first(3)", x.first(3), -1);
        check.due("in the third", x.first(0), 3);
        check.due("in the first", x.first(2), 1);
        check.due("in none of 60", x.first(1), -4);
        x.evenings(1);
        check.due("in the 60th", x.first(1), 60);
        check.due("from now", x.first(0), 2);
        check.due("who has nobody", Check.told("9,9;p20!0").first(1), -4);
    }

    private static void promise21All() {
        check.due("nobody", new DullEvenings().all(), 0);
        DullEvenings x = new DullEvenings();
        x.hearer(3);
        check.due("no tellers", x.all(), 0);
        DullEvenings z = new DullEvenings();
        z.teller(0, 3);
        check.due("no hearers", z.all(), 0);
        DullEvenings y = Check.told("60,60,60;p1,p1,p1");
        check.due("all in 3", y.all(), 3);
        y.evenings(2);
        check.due("one more", y.all(), 1);
        y.evenings(1);
        check.due("now", y.all(), 0);
        check.due("never", Check.told("60,60;p1,p1!0").all(), -4);
        check.due("never as none bears it", Check.told("60,3;p1,p4").all(), -4);
        check.due("in some evenings of rest", Check.told("60-60,60-60,60-60;p10").all(), 5);
        // He bears 0 in each evening with the teller, and rests by 5 in the other four.
        check.due("at length", Check.told("60-60,60,60,60,60;p20").all(), 6);
    }

    private static void promise23Pace() {
        DullEvenings x = Check.told("10,10;p5,p20");
        check.due("pace(0, 0)", x.pace(0, 0), -1);
        check.due("pace(41, 0)", x.pace(41, 0), -1);
        check.due("pace(1, -1)", x.pace(1, -1), -1);
        check.due("pace(1, 3)", x.pace(1, 3), -1);
        check.due("which", x.pace(2, 0), 0);
        check.due("heard", x.pace(2, 1), 2);
        check.due("look", x.pace(2, 2), 2);
        x.step(4);
        check.due("of like ones the first", x.pace(2, 0), 0);
        DullEvenings y = Check.told("1,60-60;p5!0");
        check.due("another step", y.pace(2, 0), 1);
        check.due("heard", y.pace(2, 1), 1);
        check.due("look", y.pace(2, 2), 1);
        check.due("beyond 9", Check.told("60;p1").pace(40, 1), 40);
        y.turn(1);
        y.evenings(1);
        check.due("from now", y.pace(40, 1) + y.pace(40, 2), 40);
        DullEvenings z = Check.told("20,1,1,20;p10,p10");
        // Seats 0 and 1, then 3 and 0 by STEP 3, then 2 and 3, and so on.
        check.due("step 3", z.pace(2, 0), 3);
        check.due("heard by 3", z.pace(2, 1), 3);
        check.due("in one evening", z.pace(1, 0), 0);
        check.due("heard in one evening", z.pace(1, 1), 1);
        DullEvenings w = Check.told("10,1,1,1,20-15;p10");
        // Only hearer 4 can bear a second tale, behind a rest; STEP 4 brings it to him.
        check.due("step 4", w.pace(2, 0), 4);
        check.due("heard by 4", w.pace(2, 1), 2);
    }

    private static void promise24Seating() {
        DullEvenings x = Check.told("5,9,20;p20,p9,p5!0");
        check.due("seating(0, 0)", x.seating(0, 0), -1);
        check.due("seating(21, 0)", x.seating(21, 0), -1);
        check.due("seating(1, -2)", x.seating(1, -2), -1);
        check.due("BAD ahead of NONE", x.seating(0, 9), -1);
        check.due("seating(1, 3)", x.seating(1, 3), -4);
        check.due("seating(1, most)", x.seating(1, Integer.MAX_VALUE), -4);
        check.due("how much", x.seating(1, -1), 3);
        int[] order = {2, 1, 0};
        for (int k = 0; k < 3; k++) {
            check.due("the k-th " + k, x.seating(1, k), order[k]);
        }
        x.turn(1);
        // Now the SEAT of TELLER 0 is 1, of 1 it is 2, of 2 it is 0.
        int[] turned = {1, 0, 2};
        for (int k = 0; k < 3; k++) {
            check.due("turned, the k-th " + k, x.seating(1, k), turned[k]);
        }
        DullEvenings y = Check.told("60,60;p5,p5,p5");
        for (int k = 0; k < 3; k++) {
            check.due("of like ones the first " + k, y.seating(5, k), k);
        }
        check.due("of like ones how much", y.seating(5, -1), 10);
        check.due("beyond 9", Check.told("60;p1").seating(20, -1), 20);
        // Each has heard his own wit (21 now) and can bear the other's (16).
        DullEvenings z = Check.told("20,16;w20,w20!0");
        z.evenings(1);
        z.rest(0, 60);
        z.rest(1, 60);
        check.due("HEARD goes along with the teller", z.seating(1, -1), 2);
        check.due("so they change seats", z.seating(1, 0), 1);
        DullEvenings last = Check.told("1,2,3,4,5;p5,p4,p3,p2,p1!0");
        for (int k = 0; k < 5; k++) {
            check.due("the last order " + k, last.seating(1, k), 4 - k);
        }
        check.due("the last order, how much", last.seating(1, -1), 5);
        Check.tell(z, "20,16;w20,p20!0");
        check.due("the wit to the weaker", z.seating(1, 0), 1);
    }

    private static void promise25Needs() {
        DullEvenings x = Check.told("9,9;p5,p7!0");
        check.due("needs(-1, 1)", x.needs(-1, 1), -1);
        check.due("needs(2, 1)", x.needs(2, 1), -1);
        check.due("needs(0, 0)", x.needs(0, 0), -1);
        check.due("needs(0, 41)", x.needs(0, 41), -1);
        check.due("needs(0, 1)", x.needs(0, 1), 5);
        check.due("above his MOST", x.needs(0, 3), 15);
        check.due("up to 99", x.needs(0, 19), 95);
        check.due("none", x.needs(0, 20), -4);
        check.due("just 99", Check.told("9;p11").needs(0, 9), 99);
        check.due("nobody", Check.told("9,9;p20!0").needs(1, 40), 0);
        check.due("an umbrella above 9", Check.told("9;u8").needs(0, 1), 10);
        check.due("an umbrella below 9", Check.told("9;u5").needs(0, 1), 8);
        // He rests by 5 up to what he then may bear at most.
        check.due("MOST stays, if it is more", Check.told("30-30,30;p5").needs(0, 3), 5);
        check.due("MOST bounds his rest", Check.told("1,60,60;p7!2").needs(0, 4), 7);
    }

    private static void promise26Spare() {
        DullEvenings none = new DullEvenings();
        check.due("spare(-1)", none.spare(-1), -1);
        check.due("spare(2)", none.spare(2), -1);
        check.due("none", none.spare(0), -4);
        check.due("none", none.spare(1), -4);
        DullEvenings x = Check.told("60,5;p5,p6!0");
        // Without hearer 0, hearer 1 looks twice; without 1, he looks once.
        check.due("who", x.spare(0), 1);
        check.due("how many", x.spare(1), 1);
        DullEvenings y = Check.told("3,3;p5,p5!0");
        check.due("of like ones the first", y.spare(0), 0);
        check.due("how many of like ones", y.spare(1), 3);
        check.due("he bears what he does: no less", Check.told("5;p5").spare(1), 0);
        // Hearer 0 has nobody now, and rests by 5 to bear the tale tomorrow only if he is there.
        DullEvenings z = Check.told("60-60,60;p5");
        z.turn(1);
        check.due("he bears what he does: no more", z.spare(0), 1);
        check.due("none looks", z.spare(1), 0);
        DullEvenings w = Check.told("60-60;p5,p6");
        check.due("he is there tomorrow", w.spare(1), 1);
    }

    private static void odds(DullEvenings x, int m, int c, int above, int below) {
        check.due("doze(" + m + ", " + c + ", 0)", x.doze(m, c, 0), above);
        check.due("doze(" + m + ", " + c + ", 1)", x.doze(m, c, 1), below);
    }

    private static void promise27Doze() {
        DullEvenings x = Check.told("5,60;p8,p20");
        check.due("doze(-1, 0, 0)", x.doze(-1, 0, 0), -1);
        check.due("doze(6, 0, 0)", x.doze(6, 0, 0), -1);
        check.due("doze(0, -1, 0)", x.doze(0, -1, 0), -1);
        check.due("doze(0, 11, 0)", x.doze(0, 11, 0), -1);
        check.due("doze(0, 0, -1)", x.doze(0, 0, -1), -1);
        check.due("doze(0, 0, 2)", x.doze(0, 0, 2), -1);
        odds(x, 0, 4, 1, 1);
        odds(x, 1, 4, 3, 5);
        odds(x, 2, 4, 0, 1);
        odds(x, 1, 0, 1, 1);
        odds(x, 1, 10, 0, 1);
        DullEvenings y = Check.told("5,5;p8,p8");
        odds(y, 1, 5, 3, 4);
        odds(y, 2, 5, 1, 4);
        odds(y, 1, 3, 91, 100);
        odds(y, 2, 3, 49, 100);
        odds(Check.told("1;p8"), 1, 5, 1, 1);
        odds(Check.told("8;p8"), 1, 5, 0, 1);
        odds(Check.told("4;p9"), 1, 10, 0, 1);
        odds(Check.told("3;p9"), 1, 10, 1, 1);
        odds(Check.told("5,5;p8!0"), 1, 5, 1, 2);
        DullEvenings all = Check.told("5,5,5,5,5;p8,p8,p8,p8,p8");
        odds(all, 5, 9, 1, 100000);
        odds(all, 1, 9, 40951, 100000);
        odds(all, 4, 7, 1539, 50000);
        DullEvenings tap = Check.told("5;t20");
        odds(tap, 1, 5, 1, 1);
        tap.evenings(1);
        tap.rest(0, 60);
        odds(tap, 1, 5, 1, 2);
        odds(new DullEvenings(), 0, 7, 1, 1);
        odds(new DullEvenings(), 5, 7, 0, 1);
    }

    private static void promise28And29Image() {
        DullEvenings x = Check.told("20,8;p3,d4!1");
        check.due("none yet", x.restore(), -4);
        x.evenings(2);
        x.spin(0, 2);
        x.seed(42);
        x.type('9');
        x.sheet(0, 1, 5);
        int bears = x.at(0, 1);
        check.due("image()", x.image(), 1);
        x.evenings(12);
        x.seed(7);
        x.hearer(5);
        x.teller(1, 1);
        x.type(';');
        x.sheet(0, 1, 6);
        check.due("restore()", x.restore(), 1);
        check.due("tellers", x.count(0), 2);
        check.due("hearers", x.count(1), 2);
        check.due("the evening", x.count(3), 2);
        check.due("BEARS", x.at(0, 1), bears);
        check.due("what may be undone", x.count(8), 3);
        check.due("THE DRAW", x.seed(1), 42);
        check.due("the tape is not of it", x.type('p'), 3);
        check.due("sheets are not of it", x.drop(0), 6);
        check.due("undo()", x.undo(), 2);
        check.due("undone as then", x.of(0, 1), 3);
        check.due("undo()", x.undo(), 1);
        check.due("the evening", x.count(3), 1);
        check.due("restore() again", x.restore(), 1);
        check.due("the evening again", x.count(3), 2);
        check.due("what may be undone again", x.count(8), 3);
        x.evenings(1);
        check.due("another image()", x.image(), 1);
        x.evenings(1);
        x.restore();
        check.due("the other's evening", x.count(3), 3);
        check.due("the other's past", x.undo(), 3);
    }

    private static void nothingIsChanged() {
        DullEvenings x = Check.told("30-9,22,14-1,41;d8,t12,p9,w15,u6!2");
        x.evenings(1);
        x.ahead(0, 60, 0);
        x.then(0, 0, 60);
        x.first(1);
        x.all();
        x.left(2, 60);
        x.pace(40, 0);
        x.seating(20, 0);
        x.needs(3, 40);
        x.spare(0);
        x.doze(1, 5, 0);
        DullEvenings y = Check.told("30-9,22,14-1,41;d8,t12,p9,w15,u6!2");
        y.evenings(1);
        for (int what = 0; what < 9; what++) {
            check.due("foretold: count(" + what + ")", x.count(what), y.count(what));
        }
        for (int who = 0; who < 4; who++) {
            for (int what = 0; what < 5; what++) {
                check.due("foretold: at", x.at(who, what), y.at(who, what));
                check.due("foretold: of", x.of(who, what), y.of(who, what));
            }
        }
    }
}
