/** Promises 1 to 9: tellers, hearers, and lists as texts. */
public final class TellersHearersTest {
    private static final Check check = new Check("TellersHearersTest");

    public static void main(String[] args) {
        promise1NewObject();
        promise2Teller();
        promise3Hearer();
        promise4Of();
        promise4CostsByKind();
        promise5At();
        promise6Heard();
        promise7Type();
        promise8Lists();
        promise8InPlaceOfAll();
        promise8Faults();
        promise9Count();
        check.end();
    }

    private static void promise1NewObject() {
        DullEvenings x = new DullEvenings();
        int[] counts = {0, 0, 0, 0, 0, 1, 0, 0, 0};
        for (int what = 0; what < counts.length; what++) {
            check.due("new: count(" + what + ")", x.count(what), counts[what]);
        }
        check.due("new: of(0, 0)", x.of(0, 0), -1);
        check.due("new: at(0, 0)", x.at(0, 0), -1);
        check.due("new: undo()", x.undo(), -4);
        check.due("new: restore()", x.restore(), -4);
        check.due("new: drop(0)", x.drop(0), -11);
        check.due("new: seed(9)", x.seed(9), 1);
        check.due("new: type(65)", x.type(65), 1);
    }

    private static void promise2Teller() {
        DullEvenings x = new DullEvenings();
        check.due("teller(-1, 5)", x.teller(-1, 5), -1);
        check.due("teller(5, 5)", x.teller(5, 5), -1);
        check.due("teller(0, 0)", x.teller(0, 0), -1);
        check.due("teller(0, 21)", x.teller(0, 21), -1);
        check.due("teller(4, 20)", x.teller(4, 20), 0);
        check.due("teller(0, 1)", x.teller(0, 1), 1);
        check.due("turn(1)", x.turn(1), 0);
        check.due("a refused teller", x.teller(0, 0), -1);
        check.due("leaves TURN", x.count(4), 1);
        check.due("leaves what may be undone", x.count(8), 1);
        check.due("teller(1, 2)", x.teller(1, 2), 2);
        check.due("TURN is 0 then", x.count(4), 0);
        check.due("nothing is to be undone", x.count(8), 0);
        x.teller(2, 3);
        check.due("the fifth", x.teller(3, 4), 4);
        x.turn(3);
        check.due("BAD ahead of FULL", x.teller(5, 4), -1);
        check.due("the sixth", x.teller(3, 4), -3);
        check.due("FULL leaves TURN", x.count(4), 3);
        check.due("FULL leaves what may be undone", x.count(8), 1);
        check.due("five tellers", x.count(0), 5);
    }

    private static void promise3Hearer() {
        DullEvenings x = new DullEvenings();
        check.due("hearer(0)", x.hearer(0), -1);
        check.due("hearer(61)", x.hearer(61), -1);
        check.due("hearer(60)", x.hearer(60), 0);
        check.due("hearer(1)", x.hearer(1), 1);
        x.turn(1);
        check.due("hearer(7)", x.hearer(7), 2);
        check.due("TURN is 0 then", x.count(4), 0);
        check.due("nothing is to be undone", x.count(8), 0);
        check.due("BEARS MOST at first", x.at(2, 1), 7);
        x.hearer(8);
        check.due("the fifth", x.hearer(9), 4);
        x.turn(4);
        check.due("the sixth", x.hearer(9), -3);
        check.due("FULL leaves TURN", x.count(4), 4);
        check.due("FULL leaves what may be undone", x.count(8), 1);
        check.due("BAD ahead of FULL", x.hearer(0), -1);
    }

    private static void promise4Of() {
        DullEvenings x = Check.told("30,20;w5,u6,t7");
        check.due("of(-1, 0)", x.of(-1, 0), -1);
        check.due("of(3, 0)", x.of(3, 0), -1);
        check.due("of(0, -1)", x.of(0, -1), -1);
        check.due("of(0, 5)", x.of(0, 5), -1);
        check.due("KIND", x.of(1, 0), 4);
        check.due("LONG", x.of(2, 1), 7);
        x.turn(2);
        int[] seats = {2, 0, 1};
        int[] hearers = {-4, 0, 1};
        int[] costs = {0, 6, 7};
        for (int t = 0; t < 3; t++) {
            check.due("SEAT of " + t, x.of(t, 2), seats[t]);
            check.due("who has " + t, x.of(t, 3), hearers[t]);
            check.due("COSTS of " + t, x.of(t, 4), costs[t]);
        }
    }

    /** What the tale COSTS in evening after evening with one teller and one hearer. */
    private static void costs(String list, int... due) {
        DullEvenings x = Check.told(list);
        for (int evening = 0; evening < due.length; evening++) {
            check.due(list + ": COSTS in " + evening, x.of(0, 4), due[evening]);
            x.evenings(1);
        }
    }

    private static void promise4CostsByKind() {
        costs("60;p20", 20, 20, 20, 20);
        costs("60;d1", 1, 2, 3, 4, 5, 6, 7, 8, 9, 10, 10, 10);
        costs("60;d20", 20, 21, 22, 22);
        costs("60;t7", 7, 3, 7, 3);
        costs("60;t1", 1, 0, 1, 0);
        costs("60;w3", 0, 4, 5, 6);
        costs("60;w4", 0, 5, 6);
        costs("60;w10", 6, 11, 12, 13);
        costs("9;w20", 16, 16, 16);
        costs("60;u20", 20, 10, 20, 10, 23, 13);
        costs("19;u9", 9, 4, 12, 7);
        costs("18;u9", 9, 7, 12);
        costs("9;u1", 4, 3, 4, 3);
    }

    private static void promise5At() {
        DullEvenings x = Check.told("30-4,20;p5,p6,p7");
        check.due("at(-1, 0)", x.at(-1, 0), -1);
        check.due("at(2, 0)", x.at(2, 0), -1);
        check.due("at(0, -1)", x.at(0, -1), -1);
        check.due("at(0, 5)", x.at(0, 5), -1);
        check.due("MOST", x.at(0, 0), 30);
        check.due("BEARS", x.at(0, 1), 26);
        check.due("LOOKED", x.at(0, 2), 0);
        check.due("whom he has", x.at(1, 3), 1);
        check.due("HEARD none", x.at(0, 4), 0);
        x.evenings(2);
        check.due("BEARS less", x.at(0, 1), 26 - 5 - 7);
        check.due("HEARD a set", x.at(0, 4), 1 + 4);
        check.due("HEARD a set by the other", x.at(1, 4), 2 + 1);
        check.due("whom he has by TURN 2", x.at(0, 3), 1);
        DullEvenings y = Check.told("3,3;p5");
        check.due("nobody for 1", y.at(1, 3), -4);
        y.evenings(3);
        check.due("LOOKED twice", y.at(0, 2), 2);
        check.due("LOOKED once", y.at(1, 2), 1);
    }

    private static void promise6Heard() {
        DullEvenings x = Check.told("60,60;p1,p1!0");
        check.due("heard(-1, 0)", x.heard(-1, 0), -1);
        check.due("heard(2, 0)", x.heard(2, 0), -1);
        check.due("heard(0, -1)", x.heard(0, -1), -1);
        check.due("heard(0, 2)", x.heard(0, 2), -1);
        x.evenings(8);
        check.due("eight times", x.heard(0, 0), 8);
        check.due("the other never", x.heard(0, 1), 0);
        x.evenings(1);
        check.due("nine times", x.heard(1, 1), 9);
        x.evenings(5);
        check.due("nine at most", x.heard(1, 1), 9);
        DullEvenings y = Check.told("4;p5");
        y.evenings(3);
        check.due("who LOOKED has not HEARD", y.heard(0, 0), 0);
    }

    private static void promise7Type() {
        DullEvenings x = new DullEvenings();
        check.due("type(31)", x.type(31), -1);
        check.due("type(127)", x.type(127), -1);
        check.due("type(-1)", x.type(-1), -1);
        check.due("type(65536 + 65)", x.type(65536 + 65), -1);
        check.due("type(32)", x.type(32), 1);
        check.due("type(126)", x.type(126), 2);
        for (int i = 3; i <= 70; i++) {
            check.due("letter " + i, x.type('p'), i);
        }
        check.due("BAD ahead of FULL", x.type(31), -1);
        check.due("letter 71", x.type('p'), -3);
        check.due("the fault's place", x.list(), -21);
        check.due("an empty tape then", x.type('p'), 1);
    }

    private static void promise8Lists() {
        check.due("the least", Check.tell(new DullEvenings(), "1;p1"), 1);
        check.due("the most", Check.tell(new DullEvenings(),
            "60-60,60-59,60-58,60-57,60-56;p20,d20,t20,w20,u20!4"), 5);
        check.due("blanks", Check.tell(new DullEvenings(),
            "  60 - 5 , 7 ; p 20 , d 3 ! 0  "), 2);
        check.due("leading zeros", Check.tell(new DullEvenings(), "05-00;u01"), 1);

        DullEvenings x = Check.told(" 60 - 5 , 7-07,8 ; w 20 , d 03 ! 0 ");
        check.due("MOST 0", x.at(0, 0), 60);
        check.due("BEARS 0", x.at(0, 1), 55);
        check.due("BEARS 1", x.at(1, 1), 0);
        check.due("BEARS 2", x.at(2, 1), 8);
        check.due("KIND 0", x.of(0, 0), 3);
        check.due("LONG 0", x.of(0, 1), 20);
        check.due("LONG 1", x.of(1, 1), 3);
        check.due("STEP", x.count(5), 0);
        DullEvenings y = Check.told("1,1;p1,d1,t1,w1,u1");
        for (int t = 0; t < 5; t++) {
            check.due("KIND " + t, y.of(t, 0), t);
        }
        check.due("STEP else 1", y.count(5), 1);
    }

    private static void promise8InPlaceOfAll() {
        DullEvenings x = Check.told("9,8,7,60;p5,d1,d1,d1!3");
        x.evenings(7);
        x.seed(77);
        x.image();
        x.sheet(1, 2, 3);
        check.due("something was counted", x.count(6) > 0 && x.count(7) > 0 ? 1 : 0, 1);
        x.turn(x.count(4) == 2 ? 1 : 2);
        check.due("a fault", Check.tell(x, "9;p5!7"), -25);
        check.due("leaves hearers", x.count(1), 4);
        check.due("leaves the evening", x.count(3), 7);
        check.due("leaves what may be undone", x.count(8), 8);
        check.due("a list", Check.tell(x, "9,8,7,60;p5,d1,d1,d1"), 4);
        int[] counts = {4, 4, 4, 0, 0, 1, 0, 0, 0};
        for (int what = 0; what < counts.length; what++) {
            check.due("told: count(" + what + ")", x.count(what), counts[what]);
        }
        for (int h = 0; h < 4; h++) {
            check.due("nothing counted", x.at(h, 2) + x.at(h, 4), 0);
        }
        check.due("THE DRAW stays", x.seed(1), 77);
        check.due("sheets stay", x.drop(1), 3);
        check.due("the image stays", x.restore(), 1);
        check.due("as it was then", x.count(3), 7);
    }

    private static void fault(String text, int place) {
        DullEvenings x = Check.told("33;t3");
        check.due("fault of '" + text + "'", Check.tell(x, text), -20 - place);
        check.due("all else stays by '" + text + "'", x.at(0, 0) * 100 + x.of(0, 1), 3303);
        check.due("the tape is empty behind '" + text + "'", x.type('x'), 1);
    }

    private static void promise8Faults() {
        fault("", 0);
        fault("   ", 3);
        fault(";", 0);
        fault("  x", 2);
        fault("0;p1", 0);
        fault("00;p1", 0);
        fault(" 61;p1", 1);
        fault("610;p1", 0);
        fault("600;p1", 2);
        fault("060;p1", 2);
        fault("6 0;p1", 2);
        fault("6x", 1);
        fault("6", 1);
        fault("6 ", 2);
        fault("6-", 2);
        fault("6-x", 2);
        fault("6-7;p1", 2);
        fault("6- 07;p1", 3);
        fault("6-070", 2);
        fault("6-006", 4);
        fault("6-1-1", 3);
        fault("6,", 2);
        fault("6,;p1", 2);
        fault("6,0;p1", 2);
        fault("1,2,3,4,5,6;p1", 9);
        fault("1,2,3,4,5 , 6;p1", 10);
        fault("6!1", 1);
        fault("6;", 2);
        fault("6;;", 2);
        fault("6;P1", 2);
        fault("6;p", 3);
        fault("6;p,", 3);
        fault("6;p0", 3);
        fault("6;p 21", 4);
        fault("6;p200", 5);
        fault("6;p210", 3);
        fault("6;p2 0", 5);
        fault("6;5", 2);
        fault("6;p1,", 5);
        fault("6;p1,!1", 5);
        fault("6;p1;", 4);
        fault("6;p1-1", 4);
        fault("6;p1,p1,p1,p1,p1,p1", 16);
        fault("6;p1!", 5);
        fault("6;p1! ", 6);
        fault("6;p1!5", 5);
        fault("6;p1!x", 5);
        fault("6;p1!12", 6);
        fault("6;p1! 1 2", 8);
        fault("6;p1!1!", 6);
        fault("6;p1 x", 5);
    }

    private static void promise9Count() {
        DullEvenings x = Check.told("60,60,60;p5,p20!2");
        check.due("count(-1)", x.count(-1), -1);
        check.due("count(9)", x.count(9), -1);
        check.due("tellers", x.count(0), 2);
        check.due("hearers", x.count(1), 3);
        check.due("seats by hearers", x.count(2), 3);
        check.due("seats by tellers", Check.told("1;p1,p1").count(2), 2);
        x.evenings(5);
        check.due("evening", x.count(3), 5);
        check.due("turn", x.count(4), 10 % 3);
        check.due("step", x.count(5), 2);
        check.due("undone", x.count(8), 5);
        int heard = 0;
        int looked = 0;
        for (int h = 0; h < 3; h++) {
            looked += x.at(h, 2);
            for (int t = 0; t < 2; t++) {
                heard += x.heard(h, t);
            }
        }
        check.due("all that was heard", x.count(6), heard);
        check.due("how often all looked", x.count(7), looked);
        DullEvenings y = Check.told("60;p1");
        y.evenings(12);
        check.due("what was heard, nine at most", y.count(6), 9);
        DullEvenings z = Check.told("3,3;p9,p9");
        z.evenings(4);
        check.due("eight looks", z.count(7), 8);
        check.due("nothing heard", z.count(6), 0);
    }
}
