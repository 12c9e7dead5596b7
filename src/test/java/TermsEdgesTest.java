/** The boundary cases that 'Terms' names in its part 1: who there is, what tales cost, an evening. */
public final class TermsEdgesTest {
    private static final int NONE = -4;
    private static final Check check = new Check("TermsEdgesTest");

    public static void main(String[] args) {
        numbersAsTheyCome();
        mostAtFirst();
        zeroAtLeast();
        heardNineAtMost();
        lookedWithoutBound();
        seats();
        sitting();
        nobody();
        plainAndDrone();
        tap();
        wit();
        umbrella();
        noMoreThanHeBears();
        fiveMoreMostAtMost();
        byHowItIsAhead();
        turnGoesRound();
        nextEvening();
        rested();
        spun();
        check.end();
    }

    /** A list of so many, all of whom can bear and tell the same. */
    private static DullEvenings listOf(int hearers, int most, int tellers, int lasts) {
        DullEvenings x = new DullEvenings();
        for (int h = 0; h < hearers; h++) {
            x.hearer(most);
        }
        for (int t = 0; t < tellers; t++) {
            x.teller(0, lasts);
        }
        return x;
    }

    private static void numbersAsTheyCome() {
        check.sentence("TELLERS 0 .. 4, as they come; HEARERS 0 .. 4, as they come");
        DullEvenings x = new DullEvenings();
        for (int i = 0; i < 5; i++) {
            check.due("teller " + i, x.teller(4 - i, 20 - i), i);
            check.due("hearer " + i, x.hearer(60 - i), i);
        }
        for (int i = 0; i < 5; i++) {
            check.due("KIND " + i, x.of(i, 0), 4 - i);
            check.due("LONG " + i, x.of(i, 1), 20 - i);
            check.due("MOST " + i, x.at(i, 0), 60 - i);
        }
        DullEvenings y = new DullEvenings();
        y.teller(0, 1);
        y.hearer(1);
        check.due("LONG by 1", y.of(0, 1), 1);
        check.due("MOST of 1", y.at(0, 0), 1);
    }

    private static void mostAtFirst() {
        check.sentence("they BEAR so much now (MOST at first)");
        DullEvenings x = new DullEvenings();
        int[] most = {1, 60, 30};
        for (int h = 0; h < most.length; h++) {
            x.hearer(most[h]);
            check.due("BEARS " + h, x.at(h, 1), most[h]);
        }
        x.teller(0, 20);
        x.evenings(1);
        x.hearer(7);
        check.due("who comes late BEARS MOST", x.at(3, 1), 7);
        check.due("and the others what they do", x.at(0, 1), 0);
        check.due("who comes late never LOOKED", x.at(3, 2), 0);
        check.due("who comes late HEARD none", x.at(3, 4), 0);
    }

    private static void zeroAtLeast() {
        check.sentence("they BEAR so much now (0 at least)");
        DullEvenings x = Check.told("20,20,1;p20,p19,p20!0");
        x.evenings(1);
        int[] one = {0, 1, 0};
        for (int h = 0; h < 3; h++) {
            check.due("BEARS " + h + " behind one", x.at(h, 1), one[h]);
        }
        x.evenings(1);
        for (int h = 0; h < 3; h++) {
            check.due("BEARS " + h + " behind two", x.at(h, 1), 0);
        }
        check.due("who BEARS 0 from the start", Check.told("60-60;p1").at(0, 1), 0);
    }

    private static void heardNineAtMost() {
        check.sentence("How often a HEARER HEARD a TELLER is counted (0 at first; 9 at most)");
        DullEvenings x = Check.told("60;p1");
        for (int n = 0; n <= 12; n++) {
            check.due("HEARD behind " + n, x.heard(0, 0), Math.min(n, 9));
            check.due("foretold behind " + n, Check.told("60;p1").then(0, 0, n), Math.min(n, 9));
            check.due("all that was HEARD behind " + n, x.count(6), Math.min(n, 9));
            x.evenings(1);
        }
        for (int n = 12; n >= 6; n--) {
            x.undo();
            check.due("HEARD when undone to " + n, x.heard(0, 0), Math.min(n, 9));
        }
        DullEvenings y = Check.told("60,60;p1,p1");
        y.evenings(19);
        check.due("each by himself", y.heard(0, 0) * 10 + y.heard(0, 1), 99);
        check.due("who HEARD 9 times is in the set", y.at(1, 4), 3);
    }

    private static void lookedWithoutBound() {
        check.sentence("how often one LOOKED at the clock");
        DullEvenings x = Check.told("1;p2");
        for (int i = 1; i <= 6; i++) {
            check.due("40 looks", x.evenings(40), 40);
            check.due("LOOKED", x.at(0, 2), 40 * i);
        }
        check.due("LOOKED in the last evening", Check.inTheLastEvening(1, 0, 2).at(0, 2), 9999);
    }

    private static void seats() {
        check.sentence("THE LIST has as many SEATS as there are TELLERS, or HEARERS, if they are more");
        for (int hearers = 0; hearers <= 5; hearers++) {
            for (int tellers = 0; tellers <= 5; tellers++) {
                DullEvenings x = listOf(hearers, 9, tellers, 1);
                check.due(hearers + " hearers, " + tellers + " tellers", x.count(2), Math.max(hearers, tellers));
            }
        }
    }

    private static void sitting() {
        check.sentence("TELLER t SITS at the SEAT that is t and TURN, left over by how many SEATS there are");
        for (int hearers = 1; hearers <= 5; hearers++) {
            for (int tellers = 1; tellers <= 5; tellers++) {
                DullEvenings x = listOf(hearers, 9, tellers, 1);
                int seats = Math.max(hearers, tellers);
                for (int turn = 0; turn < seats; turn++) {
                    x.turn(turn);
                    sitting(x, hearers, tellers, turn);
                }
            }
        }
    }

    private static void sitting(DullEvenings x, int hearers, int tellers, int turn) {
        int seats = Math.max(hearers, tellers);
        int[] has = {NONE, NONE, NONE, NONE, NONE};
        for (int t = 0; t < tellers; t++) {
            int seat = t + turn < seats ? t + turn : t + turn - seats;
            String who = "teller " + t + " of " + tellers + " for " + hearers + " by TURN " + turn;
            check.due(who + ": SEAT", x.of(t, 2), seat);
            check.due(who + ": who has him", x.of(t, 3), seat < hearers ? seat : NONE);
            check.due(who + ": COSTS", x.of(t, 4), seat < hearers ? 1 : 0);
            has[seat] = t;
        }
        for (int h = 0; h < hearers; h++) {
            check.due("hearer " + h + " by TURN " + turn, x.at(h, 3), has[h]);
            check.due("foretold by 0", x.ahead(h, 0, 2), has[h]);
        }
    }

    private static void nobody() {
        check.sentence("if there is a HEARER of that number, this one has him for the EVENING, else he has nobody");
        DullEvenings x = listOf(0, 1, 5, 20);
        for (int t = 0; t < 5; t++) {
            check.due("SEAT " + t, x.of(t, 2), t);
            check.due("nobody has " + t, x.of(t, 3), NONE);
            check.due("COSTS nobody", x.of(t, 4), 0);
        }
        check.due("none LOOKS", x.evenings(40), 0);
        DullEvenings y = Check.told("60;p1,p2!0");
        check.due("who has 1", y.of(1, 3), NONE);
        y.evenings(5);
        check.due("who has nobody is not HEARD", y.heard(0, 1), 0);
    }

    private static void plainAndDrone() {
        check.sentence("0 PLAIN: as it is LONG");
        check.due("LONG by 1", Check.told("60;p1").of(0, 4), 1);
        check.due("LONG by 20", Check.told("60;p20").of(0, 4), 20);
        check.sentence("1 DRONE: as PLAIN; 1 more for each time that one HEARD him");
        DullEvenings x = Check.told("60,60;d20,p1!0");
        for (int n = 0; n <= 11; n++) {
            x.rest(0, 60);
            check.due("COSTS, HEARD " + n + " times", x.of(0, 4), 20 + Math.min(9, n));
            x.evenings(1);
        }
        x.turn(1);
        check.due("COSTS another, who never HEARD him", x.of(0, 4), 20);
        DullEvenings y = Check.told("5;d6");
        y.evenings(3);
        check.due("who LOOKED has not HEARD", y.of(0, 4), 6);
    }

    private static void tap() {
        check.sentence("2 TAP: but half of that in EVENINGS of an odd number; what is divided is cut");
        int[] lasts = {1, 2, 3, 19, 20};
        int[] halves = {0, 1, 1, 9, 10};
        for (int i = 0; i < lasts.length; i++) {
            DullEvenings x = Check.told("60;t" + lasts[i]);
            for (int evening = 0; evening < 4; evening++) {
                check.due("t" + lasts[i] + " in " + evening, x.of(0, 4), evening % 2 == 0 ? lasts[i] : halves[i]);
                x.evenings(1);
            }
        }
        check.due("in EVENING 9999", Check.inTheLastEvening(60, 2, 19).of(0, 4), 9);
        DullEvenings y = Check.told("10-10;t1");
        y.evenings(1);
        check.due("who BEARS 0 LOOKED by 1", y.at(0, 2), 1);
        check.due("who BEARS 0 hears what COSTS 0", y.evenings(1), 0);
        check.due("HEARD", y.heard(0, 0), 1);
    }

    private static void wit() {
        check.sentence("3 WIT: as DRONE; 4 less (0 at least), if that one never HEARD him");
        int[] lasts = {1, 3, 4, 5, 20};
        int[] first = {0, 0, 0, 1, 16};
        for (int i = 0; i < lasts.length; i++) {
            DullEvenings x = Check.told("60;w" + lasts[i]);
            check.due("w" + lasts[i] + " never HEARD", x.of(0, 4), first[i]);
            x.evenings(1);
            check.due("w" + lasts[i] + " behind it he BEARS", x.at(0, 1), 60 - first[i]);
            check.due("w" + lasts[i] + " HEARD once", x.of(0, 4), lasts[i] + 1);
            x.evenings(1);
            check.due("w" + lasts[i] + " HEARD twice", x.of(0, 4), lasts[i] + 2);
        }
        DullEvenings y = Check.told("60-60;w4");
        check.due("who BEARS 0 hears what COSTS 0", y.evenings(1), 0);
        DullEvenings z = Check.told("15;w20");
        z.evenings(2);
        check.due("who LOOKED never HEARD", z.of(0, 4), 16);
        DullEvenings w = Check.told("60;w1");
        for (int i = 0; i < 12; i++) {
            w.rest(0, 60);
            w.evenings(1);
        }
        check.due("9 more at most", w.of(0, 4), 10);
    }

    private static void umbrella() {
        check.sentence("4 UMBRELLA: as TAP; 3 more, if that one BEARS 9 or less");
        for (int bears = 0; bears <= 12; bears++) {
            DullEvenings x = Check.told("60-" + (60 - bears) + ";u20");
            check.due("u20, BEARS " + bears, x.of(0, 4), bears <= 9 ? 23 : 20);
        }
        check.due("MOST 9", Check.told("9;u1").of(0, 4), 4);
        check.due("MOST 10", Check.told("10;u1").of(0, 4), 1);
        DullEvenings odd = Check.told("12;u3");
        odd.evenings(1);
        check.due("half of it and 3 more", odd.of(0, 4), 1 + 3);
        DullEvenings other = Check.told("13;u3");
        other.evenings(1);
        check.due("half of it", other.of(0, 4), 1);
        DullEvenings y = Check.told("9;u6");
        check.due("just as much as he BEARS", y.evenings(1), 0);
        check.due("he BEARS 0", y.at(0, 1), 0);
        check.due("1 more than he BEARS", Check.told("8;u6").evenings(1), 1);
    }

    private static void noMoreThanHeBears() {
        check.sentence("if the tale COSTS no more than he BEARS, he BEARS so much less then, and HEARD him once more");
        for (int bears = 0; bears <= 3; bears++) {
            DullEvenings x = Check.told("3-" + (3 - bears) + ";p2");
            boolean hears = bears >= 2;
            check.due("how often any LOOKED, BEARS " + bears, x.evenings(1), hears ? 0 : 1);
            check.due("BEARS then", x.at(0, 1), hears ? bears - 2 : 0);
            check.due("HEARD", x.heard(0, 0), hears ? 1 : 0);
            check.due("HEARD, a set", x.at(0, 4), hears ? 1 : 0);
            check.due("LOOKED", x.at(0, 2), hears ? 0 : 1);
        }
        check.sentence("else he LOOKED once more, and BEARS 0 then");
        DullEvenings y = Check.told("19;p20");
        y.evenings(1);
        check.due("BEARS 0 of 19", y.at(0, 1), 0);
        check.due("LOOKED", y.at(0, 2), 1);
        check.due("as the next tale finds him", y.evenings(1), 1);
        check.due("LOOKED again", y.at(0, 2), 2);
    }

    private static void fiveMoreMostAtMost() {
        check.sentence("Who has none BEARS 5 more (MOST at most)");
        for (int less = 0; less <= 7; less++) {
            DullEvenings x = Check.told("9,60-" + less + ";p1!0");
            x.evenings(1);
            check.due("less by " + less, x.at(1, 1), Math.min(60, 65 - less));
        }
        DullEvenings y = Check.told("9,1-1;p1!0");
        y.evenings(1);
        check.due("MOST of 1", y.at(1, 1), 1);
        DullEvenings z = listOf(2, 12, 0, 1);
        z.evenings(40);
        check.due("no tellers: MOST stays", z.at(1, 1), 12);
        check.due("no tellers: none LOOKED", z.count(7), 0);
    }

    private static void byHowItIsAhead() {
        check.sentence("All by how it is ahead of the EVENING");
        DullEvenings x = Check.told("12;u3");
        x.evenings(1);
        check.due("BEARS 12 ahead, so not 3 more", x.at(0, 1), 9);
        x.evenings(1);
        check.due("BEARS 9 ahead, so 3 more, and an odd EVENING ahead", x.at(0, 1), 5);
        DullEvenings y = Check.told("20;d5");
        y.evenings(1);
        check.due("never HEARD ahead", y.at(0, 1), 15);
        y.evenings(1);
        check.due("HEARD once ahead", y.at(0, 1), 9);
        DullEvenings z = Check.told("8,8;p8,p8");
        check.due("each has the TELLER of the TURN ahead", z.evenings(1), 0);
        check.due("hearer 0 HEARD 0", z.heard(0, 0), 1);
        check.due("hearer 1 HEARD 1", z.heard(1, 1), 1);
        DullEvenings t = Check.told("60;t20");
        t.evenings(1);
        check.due("EVENING 0 ahead is even", t.at(0, 1), 40);
    }

    private static void turnGoesRound() {
        check.sentence("Then TURN is STEP more, left over by how many SEATS there are (0, if there are none)");
        for (int seats = 0; seats <= 5; seats++) {
            for (int step = 0; step <= 4; step++) {
                DullEvenings x = listOf(seats, 60, seats > 0 ? 1 : 0, 1);
                x.step(step);
                for (int n = 0; n <= 6; n++) {
                    int due = seats == 0 ? 0 : n * step % seats;
                    check.due(seats + " seats, STEP " + step + ", behind " + n, x.count(4), due);
                    x.evenings(1);
                }
            }
        }
        DullEvenings y = Check.told("9,9,9,9,9;p1!4");
        y.turn(4);
        y.drift(1);
        check.due("behind a drift", y.count(4), 3);
    }

    private static void nextEvening() {
        check.sentence("It is EVENING 0 at first; it is the next EVENING");
        DullEvenings x = new DullEvenings();
        check.due("at first", x.count(3), 0);
        x.evenings(1);
        check.due("behind one", x.count(3), 1);
        x.evenings(40);
        check.due("behind 41", x.count(3), 41);
        x.drift(1);
        check.due("behind a drift", x.count(3), 42);
        x.hearer(9);
        x.teller(0, 1);
        check.due("people don't change it", x.count(3), 42);
        check.sentence("TURN is 0 at first, STEP 0 .. 4 (1 at first)");
        DullEvenings y = new DullEvenings();
        check.due("TURN", y.count(4), 0);
        check.due("STEP", y.count(5), 1);
    }

    private static void rested() {
        check.sentence("RESTED: a HEARER BEARS n more (MOST at most)");
        int[] more = {1, 9, 10, 11, 60};
        int[] due = {51, 59, 60, 60, 60};
        for (int i = 0; i < more.length; i++) {
            DullEvenings x = Check.told("60-10,60-10;p1");
            check.due("rest(0, " + more[i] + ")", x.rest(0, more[i]), due[i]);
            check.due("BEARS", x.at(0, 1), due[i]);
            check.due("the other BEARS", x.at(1, 1), 50);
        }
    }

    private static void spun() {
        check.sentence("SPUN out: a tale is n LONGER (20 at most)");
        int[] more = {1, 4, 5, 6, 20};
        int[] due = {16, 19, 20, 20, 20};
        for (int i = 0; i < more.length; i++) {
            DullEvenings x = Check.told("60;p15,p15");
            check.due("spin(0, " + more[i] + ")", x.spin(0, more[i]), due[i]);
            check.due("LONG", x.of(0, 1), due[i]);
            check.due("COSTS", x.of(0, 4), due[i]);
            check.due("the other LONG", x.of(1, 1), 15);
        }
        check.due("of 19", Check.told("60;p19").spin(0, 1), 20);
        check.due("of 1 by 20", Check.told("60;p1").spin(0, 20), 20);
    }
}
