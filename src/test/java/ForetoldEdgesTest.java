import java.util.List;
import java.util.function.Supplier;
import java.util.function.ToIntFunction;

/** The boundary cases of promises 18 to 29: what is foretold, the odds of dozing, images. */
public final class ForetoldEdgesTest {
    private static final int NONE = -4;
    private static final Check check = new Check("ForetoldEdgesTest");
    private static final Twins twins = new Twins(check);

    public static void main(String[] args) {
        nothingIsChanged();
        behindNoneAndSixty();
        whomHeHasThen();
        first();
        all();
        allAtLength();
        left();
        paceOfLikeSteps();
        paceOfEachStep();
        paceBeyondNine();
        seatingOfFew();
        seatingOfLikeOrders();
        seatingOfEachOrder();
        seatingFromTheSeatNow();
        seatingWithWhatWasHeard();
        seatingBeyondNine();
        needsAtTheEnds();
        needsMostAsMuch();
        needsOfAnUmbrella();
        spareOfNoneAndOne();
        spareOfLikeOnes();
        spareForTwoEvenings();
        dozeNeverAndAlways();
        dozeByHalf();
        dozeByMany();
        dozeInLowestTerms();
        images();
        imagesOfEachPast();
        imagesOfTheEnds();
        check.end();
    }

    private static void unchanged(String call, ToIntFunction<DullEvenings> asking) {
        List<Supplier<DullEvenings>> makings = List.of(Shires::some, Shires::full);
        for (Supplier<DullEvenings> making : makings) {
            twins.unchanged(call, making, asking, asking.applyAsInt(making.get()));
        }
    }

    private static void nothingIsChanged() {
        check.sentence("FORETOLD from now (nothing is changed)");
        unchanged("ahead", x -> x.ahead(1, 60, 0));
        unchanged("then", x -> x.then(1, 1, 60));
        unchanged("first", x -> x.first(1));
        unchanged("all", x -> x.all());
        unchanged("left", x -> x.left(1, 60));
        unchanged("pace", x -> x.pace(40, 0));
        unchanged("seating", x -> x.seating(20, 1));
        unchanged("seating", x -> x.seating(20, -1));
        unchanged("needs", x -> x.needs(1, 40));
        unchanged("spare", x -> x.spare(0));
        unchanged("doze", x -> x.doze(1, 5, 0));
        unchanged("borne by KIND", x -> x.borne(1, 1, 0, 2, 0, 3, 0));
        unchanged("borne by LONG", x -> x.borne(1, 1, 0, 2, 0, 3, 1));
        unchanged("borne by STEP", x -> x.borne(1, 1, 0, 2, 0, 3, 2));
    }

    private static void behindNoneAndSixty() {
        check.sentence("behind n EVENINGS (0 .. 60) what a HEARER BEARS; how often he LOOKED; how often he HEARD");
        DullEvenings x = Check.told("60,3;p1,p4!0");
        x.evenings(2);
        check.due("BEARS behind 0", x.ahead(0, 0, 0), 58);
        check.due("LOOKED behind 0", x.ahead(1, 0, 1), 2);
        check.due("HEARD behind 0", x.then(0, 0, 0), 2);
        check.due("BEARS behind 1", x.ahead(0, 1, 0), 57);
        check.due("LOOKED behind 1", x.ahead(1, 1, 1), 3);
        check.due("HEARD behind 1", x.then(0, 0, 1), 3);
        check.due("BEARS behind 58", x.ahead(0, 58, 0), 0);
        check.due("LOOKED behind 58", x.ahead(0, 58, 1), 0);
        check.due("LOOKED behind 59", x.ahead(0, 59, 1), 1);
        check.due("LOOKED behind 60", x.ahead(0, 60, 1), 2);
        check.due("LOOKED always behind 60", x.ahead(1, 60, 1), 62);
        check.due("HEARD behind 60, 9 at most", x.then(0, 0, 60), 9);
        check.due("HEARD never behind 60", x.then(1, 1, 60), 0);
    }

    private static void whomHeHasThen() {
        check.sentence("whom he has then (none)");
        DullEvenings x = Check.told("9,9,9;p1,p1");
        int[] has = {0, NONE, 1, 0, NONE, 1, 0};
        for (int n = 0; n < has.length; n++) {
            check.due("behind " + n, x.ahead(0, n, 2), has[n]);
        }
        check.due("behind 60", x.ahead(0, 60, 2), 0);
        check.due("behind 59", x.ahead(0, 59, 2), 1);
        DullEvenings y = new DullEvenings();
        y.hearer(9);
        check.due("no tellers", y.ahead(0, 60, 2), NONE);
        check.due("no tellers: BEARS", y.ahead(0, 60, 0), 9);
    }

    private static void first() {
        check.sentence("FIRST of a HEARER: in which of the next 60 EVENINGS (1 on) he LOOKS first; none");
        check.due("the very next", Check.told("1;p2").first(0), 1);
        check.due("the second", Check.told("2;p2").first(0), 2);
        DullEvenings x = Check.told("60;p1");
        check.due("the 61st", x.first(0), NONE);
        x.evenings(1);
        check.due("the 60th", x.first(0), 60);
        x.evenings(1);
        check.due("the 59th", x.first(0), 59);
        x.evenings(40);
        x.evenings(18);
        check.due("the next", x.first(0), 1);
        x.evenings(1);
        check.due("having LOOKED, the next again", x.first(0), 1);
        DullEvenings y = new DullEvenings();
        y.hearer(1);
        check.due("no tellers", y.first(0), NONE);
        check.due("who rests enough", Check.told("5,5,5,5,5;p5").first(0), NONE);
    }

    private static void all() {
        check.sentence("ALL: the first of 0 to 60 EVENINGS behind which each HEARER HEARD each TELLER; none");
        check.due("nobody", new DullEvenings().all(), 0);
        DullEvenings tellers = new DullEvenings();
        tellers.teller(0, 20);
        check.due("no hearers", tellers.all(), 0);
        DullEvenings hearers = new DullEvenings();
        hearers.hearer(1);
        check.due("no tellers", hearers.all(), 0);
        DullEvenings x = Check.told("60,60;p1,p1");
        for (int n = 2; n >= 0; n--) {
            check.due("in " + n, x.all(), n);
            x.evenings(1);
        }
        check.due("still", x.all(), 0);
        check.due("never: he can't bear it", Check.told("1;p2").all(), NONE);
        check.due("never: he never has him", Check.told("9,9;p1!0").all(), NONE);
        check.due("never: one of two", Check.told("60,1;p1,p2").all(), NONE);
        x.hearer(60);
        check.due("who is new HEARD none", x.all(), 3);
    }

    private static void allAtLength() {
        check.sentence("ALL: the first ... behind which each HEARER HEARD each TELLER (the longest that was found)");
        String list = "15-15,20-20,60-34,38-38,47-47;t3,d13!1";
        DullEvenings x = Check.told(list);
        for (int n = 14; n >= 0; n--) {
            check.due("in " + n, x.all(), n);
            int missing = 0;
            for (int h = 0; h < 5; h++) {
                missing += x.at(h, 4) == 3 ? 0 : 1;
            }
            check.due("some have not HEARD all by " + n, missing > 0 ? 1 : 0, n > 0 ? 1 : 0);
            x.evenings(1);
        }
    }

    private static void left() {
        check.sentence("LEFT: TELLERS (a set) that a HEARER never HEARD behind n EVENINGS (0 .. 60)");
        DullEvenings x = Check.told("60;p1,p1,p1,p1,p1!4");
        // By STEP 4 of five seats the hearer has tellers 0, 1, 2 ..
        int[] sets = {31, 30, 28, 24, 16, 0, 0};
        for (int n = 0; n < sets.length; n++) {
            check.due("behind " + n, x.left(0, n), sets[n]);
        }
        check.due("behind 60", x.left(0, 60), 0);
        check.due("never HEARD behind 60", Check.told("1;p2,p1!0").left(0, 60), 3);
        check.due("the other never came", Check.told("60;p1,p1!0").left(0, 60), 2);
        DullEvenings y = new DullEvenings();
        y.hearer(9);
        check.due("no tellers", y.left(0, 0), 0);
        y.teller(0, 1);
        check.due("one", y.left(0, 0), 1);
        y.evenings(1);
        check.due("HEARD now", y.left(0, 0), 0);
    }

    private static void paceOfLikeSteps() {
        check.sentence("PACE: of like ones the first");
        DullEvenings none = new DullEvenings();
        for (int what = 0; what <= 2; what++) {
            check.due("nobody: pace(40, " + what + ")", none.pace(40, what), 0);
        }
        DullEvenings x = Check.told("60,60;p1,p1!4");
        check.due("all alike", x.pace(40, 0), 0);
        check.due("how much", x.pace(40, 1), 80);
        check.due("how many LOOK", x.pace(40, 2), 0);
        check.due("one EVENING is alike by all", Check.told("1,9,1;p2,p3!3").pace(1, 0), 0);
        check.due("one EVENING: how much", Check.told("1,9,1;p2,p3!3").pace(1, 1), 1);
        check.due("one EVENING: how many LOOK", Check.told("1,9,1;p2,p3!3").pace(1, 2), 1);
        check.due("of 1 and 3 by two seats the first", Check.told("5,5;p5!0").pace(2, 0), 1);
        check.due("of 0, 2 and 4 by two seats the first", Check.told("60,1;p5!1").pace(2, 0), 0);
    }

    private static void paceOfEachStep() {
        check.sentence("PACE: the STEP (0 .. 4) from now on by which most is HEARD in them");
        for (int step = 0; step <= 4; step++) {
            // Hearer 0 bears the tale once; whom STEP comes to bears it too, if that is not him.
            StringBuilder text = new StringBuilder(step == 0 ? "12" : "6");
            for (int h = 1; h < 5; h++) {
                text.append(h == step ? ",6" : ",1");
            }
            DullEvenings x = Check.told(text + ";p6!" + (step + 1) % 5);
            check.due("which " + step, x.pace(2, 0), step);
            check.due("how much by " + step, x.pace(2, 1), 2);
            check.due("how many LOOK by " + step, x.pace(2, 2), 0);
        }
        DullEvenings y = Check.told("1,1,1,1,1;p2,p2,p2,p2,p2");
        check.due("none is HEARD: which", y.pace(40, 0), 0);
        check.due("none is HEARD: how much", y.pace(40, 1), 0);
        check.due("none is HEARD: how many LOOK", y.pace(40, 2), 200);
    }

    private static void paceBeyondNine() {
        check.sentence("PACE: how often one HEARS a TELLER, by all, of all, also beyond 9");
        check.due("40 times", Check.told("60;p1").pace(40, 1), 40);
        check.due("10 times", Check.told("10;p1").pace(40, 1), 10);
        check.due("LOOK else", Check.told("10;p1").pace(40, 2), 30);
        DullEvenings x = Check.told("60;p1");
        x.evenings(20);
        check.due("behind 9", x.pace(40, 1), 40);
        x.evenings(1);
        check.due("39 more", x.pace(40, 1), 39);
        check.due("LOOKED earlier counts for nothing", x.pace(40, 2), 1);
        // A drone costs 9 more at most, and is HEARD on: 1 .. 10 are 55.
        check.due("a drone", Check.told("60;d1").pace(40, 1), 10);
    }

    private static void seatingOfFew() {
        check.sentence("Promise 24: how much (k -1), the k-th (NONE: not so many)");
        DullEvenings none = new DullEvenings();
        check.due("nobody: how much", none.seating(20, -1), 0);
        check.due("nobody: the first", none.seating(20, 0), NONE);
        DullEvenings one = Check.told("60;p1");
        check.due("one: how much", one.seating(1, -1), 1);
        check.due("one: the first", one.seating(1, 0), 0);
        check.due("one: the second", one.seating(1, 1), NONE);
        DullEvenings tellers = new DullEvenings();
        for (int t = 0; t < 5; t++) {
            tellers.teller(0, 1);
        }
        check.due("no hearers: how much", tellers.seating(20, -1), 0);
        for (int k = 0; k < 5; k++) {
            check.due("no hearers: the k-th " + k, tellers.seating(20, k), k);
        }
        check.due("no hearers: the sixth", tellers.seating(20, 5), NONE);
    }

    private static void seatingOfLikeOrders() {
        check.sentence("SEATING: of like ones the first (by numbers, rising)");
        DullEvenings x = Check.told("1,1,1,1,1;p2,p2,p2,p2,p2");
        for (int k = 0; k < 5; k++) {
            check.due("none is HEARD, the k-th " + k, x.seating(20, k), k);
        }
        check.due("none is HEARD: how much", x.seating(20, -1), 0);
        // Hearer 4 alone can bear a tale, and only that of teller 1: of 24 orders 0 2 3 4 1.
        DullEvenings y = Check.told("1,1,1,1,5;p6,p5,p6,p6,p6!0");
        int[] order = {0, 2, 3, 4, 1};
        for (int k = 0; k < 5; k++) {
            check.due("of 24, the k-th " + k, y.seating(1, k), order[k]);
        }
        DullEvenings last = Check.told("1,2,3,4,5;p5,p4,p3,p2,p1!0");
        for (int k = 0; k < 5; k++) {
            check.due("the last of 120, the k-th " + k, last.seating(1, k), 4 - k);
        }
    }

    private static void seatingOfEachOrder() {
        check.sentence("SEATING: the order in which TELLERS should sit (each of 120 is the best of some list)");
        for (int code = 0; code < 3125; code++) {
            int[] order = {code / 625, code / 125 % 5, code / 25 % 5, code / 5 % 5, code % 5};
            int seen = 0;
            for (int t : order) {
                seen |= 1 << t;
            }
            if (seen == 31) {
                seatingIs(order);
            }
        }
    }

    /** Hearer k can bear k + 1, and the tale of the k-th of the order costs just that. */
    private static void seatingIs(int[] order) {
        int[] lasts = new int[5];
        for (int k = 0; k < 5; k++) {
            lasts[order[k]] = k + 1;
        }
        DullEvenings x = new DullEvenings();
        for (int i = 0; i < 5; i++) {
            x.hearer(i + 1);
            x.teller(0, lasts[i]);
        }
        check.due("how much", x.seating(1, -1), 5);
        for (int k = 0; k < 5; k++) {
            check.due("the k-th " + k, x.seating(1, k), order[k]);
        }
    }

    private static void seatingWithWhatWasHeard() {
        check.sentence("SEATING: (how often one HEARD him goes along with a TELLER)");
        // Each has heard his own wit, who costs him 21 then; the other's costs 16.
        for (int hearers = 2; hearers <= 5; hearers++) {
            DullEvenings x = new DullEvenings();
            for (int i = 0; i < hearers; i++) {
                x.hearer(16);
                x.teller(3, 20);
            }
            x.step(0);
            x.evenings(1);
            for (int h = 0; h < hearers; h++) {
                x.rest(h, 16);
            }
            check.due("how much for " + hearers, x.seating(1, -1), hearers);
            // The first order that leaves nobody his own: 1 0, 1 2 0, 1 0 3 2, 1 0 3 4 2.
            String first = new String[] {"10", "120", "1032", "10342"}[hearers - 2];
            for (int k = 0; k < hearers; k++) {
                check.due("the k-th " + k + " for " + hearers, x.seating(1, k), first.charAt(k) - '0');
            }
        }
    }

    private static void seatingFromTheSeatNow() {
        check.sentence("SEATING: the k-th of it at the SEAT of TELLER k now, and so on from EVENING to EVENING");
        // Only hearer 2 can bear 20, and he has whoever sits in the place of teller 2 less TURN.
        for (int turn = 0; turn < 3; turn++) {
            DullEvenings x = Check.told("1,1,20;p20,p20,p1!0");
            x.turn(turn);
            check.due("how much by TURN " + turn, x.seating(1, -1), 2);
            int place = (2 + 3 - turn) % 3;
            check.due("who sits not at SEAT 2 by TURN " + turn, x.seating(1, place) == 2 ? 1 : 0, 0);
        }
        // By STEP 1 of two seats each hears both, the other way about.
        DullEvenings y = Check.told("20,1;w20,p1");
        check.due("0 hears 0, then 1", y.seating(2, 0), 0);
        check.due("how much in two", y.seating(2, -1), 3);
        check.due("how much in one", y.seating(1, -1), 2);
        DullEvenings z = Check.told("1,60;p20,p1");
        check.due("how much in one", z.seating(1, -1), 2);
        check.due("the other first", z.seating(1, 0), 1);
    }

    private static void seatingBeyondNine() {
        check.sentence("SEATING, likewise: also beyond 9");
        check.due("20 times", Check.told("60;p1").seating(20, -1), 20);
        DullEvenings x = Check.told("60,60,60,60,60;p1,p1,p1,p1,p1!0");
        check.due("100 times", x.seating(20, -1), 100);
        check.due("a drone 9 times heard", Check.told("60;d1").seating(20, -1), 10);
        check.due("how much in 20", Check.told("19;p1").seating(20, -1), 19);
    }

    private static void needsAtTheEnds() {
        check.sentence("NEEDS: the least that he must BEAR now (0 .. 99) so that he LOOKS in none of them; none");
        DullEvenings x = Check.told("1;p1");
        check.due("one EVENING", x.needs(0, 1), 1);
        check.due("40 EVENINGS", x.needs(0, 40), 40);
        check.due("99", Check.told("1;p11").needs(0, 9), 99);
        check.due("99 by 33 EVENINGS", Check.told("60;p3").needs(0, 33), 99);
        check.due("100", Check.told("60;p20").needs(0, 5), NONE);
        check.due("100 by 25 EVENINGS", Check.told("60;p4").needs(0, 25), NONE);
        check.due("110", Check.told("1;p11").needs(0, 10), NONE);
        check.due("0: he has nobody", Check.told("1,1;p20!0").needs(1, 40), 0);
        check.due("0: it COSTS nothing", Check.told("1;w4").needs(0, 1), 0);
        check.due("more than 0 then", Check.told("1;w4").needs(0, 2), 5);
        check.due("whatever he BEARS now", Check.told("60-60;p7").needs(0, 1), 7);
        check.due("whatever he BEARS now", Check.told("60;p7").needs(0, 1), 7);
        DullEvenings hearers = new DullEvenings();
        hearers.hearer(1);
        check.due("no tellers", hearers.needs(0, 40), 0);
        DullEvenings looked = Check.told("1;p2");
        looked.evenings(3);
        check.due("who LOOKED earlier", looked.needs(0, 1), 2);
    }

    private static void needsMostAsMuch() {
        check.sentence("NEEDS: (MOST as much, if that is less)");
        // He rests by 5 this evening, and has a tale of 7 in the next.
        int[] most = {1, 5, 6, 7, 8, 60};
        int[] needs = {7, 7, 7, 2, 2, 2};
        for (int i = 0; i < most.length; i++) {
            DullEvenings x = Check.told(most[i] + ",60;p7");
            x.turn(1);
            check.due("MOST " + most[i], x.needs(0, 2), needs[i]);
        }
        // A tale of 7, a rest, a tale of 7: 9, 2, 7, 0, whatever MOST is.
        check.due("MOST 1", Check.told("1,60;p7").needs(0, 3), 9);
        check.due("MOST 60", Check.told("60,60;p7").needs(0, 3), 9);
        check.due("MOST as it is then", Check.told("1,60;p7").at(0, 0), 1);
    }

    private static void needsOfAnUmbrella() {
        check.sentence("NEEDS: the least, where an UMBRELLA COSTS 3 more, if that one BEARS 9 or less");
        int[] lasts = {1, 5, 6, 7, 8, 9, 10, 11};
        int[] needs = {4, 8, 9, 10, 10, 10, 10, 11};
        for (int i = 0; i < lasts.length; i++) {
            check.due("u" + lasts[i], Check.told("1;u" + lasts[i]).needs(0, 1), needs[i]);
        }
    }

    private static void spareOfNoneAndOne() {
        check.sentence("SPARE: none: there are none");
        DullEvenings tellers = new DullEvenings();
        tellers.teller(0, 5);
        check.due("no hearers: who", tellers.spare(0), NONE);
        check.due("no hearers: how many", tellers.spare(1), NONE);
        DullEvenings hearers = new DullEvenings();
        hearers.hearer(5);
        check.due("no tellers: who", hearers.spare(0), 0);
        check.due("no tellers: how many", hearers.spare(1), 0);
        check.due("one: who", Check.told("1;p2").spare(0), 0);
        check.due("one: how many", Check.told("1;p2").spare(1), 1);
    }

    private static void spareOfLikeOnes() {
        check.sentence("SPARE: lets fewest LOOK, of like ones the first");
        check.due("all alike", Check.told("60,60,60;p1,p1,p1").spare(0), 0);
        check.due("all alike: how many", Check.told("60,60,60;p1,p1,p1").spare(1), 0);
        DullEvenings x = Check.told("1,1,1,1,1;p2,p2,p2,p2,p2");
        check.due("all LOOK", x.spare(0), 0);
        check.due("all LOOK: how many", x.spare(1), 9);
        check.due("the last", Check.told("60,60,60,60,1;p1,p1,p1,p1,p2!0").spare(0), 4);
        check.due("of the last two the first", Check.told("60,60,60,1,1;p1,p1,p1,p2,p2!0").spare(0), 3);
    }

    private static void spareForTwoEvenings() {
        check.sentence("SPARE: in the next two EVENINGS; his TELLER has nobody, he BEARS what he does");
        // Spared, he bears 5 for the second evening, which is all that he can bear.
        check.due("he BEARS what he does", Check.told("5;p5").spare(1), 0);
        check.due("he is there in the second", Check.told("4;p5").spare(1), 1);
        // A third evening in which he looks counts for nothing.
        check.due("no third EVENING", Check.told("10,60;p5,p5!0").spare(1), 0);
        // Who rests this evening would bear 5 more; spared he does not.
        DullEvenings x = Check.told("9-9,60;p5");
        x.turn(1);
        check.due("not who needs his rest", x.spare(0), 1);
        check.due("who is spared BEARS no more", x.spare(1), 0);
        // The count of hearings ahead of the spared evening holds for a drone.
        DullEvenings d = Check.told("6;d6");
        check.due("he HEARD nobody", d.spare(1), 0);
        check.due("the second is an odd EVENING", Check.told("5;t10").spare(1), 0);
        // In the second evening TURN is STEP more, whoever was spared.
        check.due("TURN goes on", Check.told("1,60;p2,p1").spare(1), 0);
    }

    private static void odds(DullEvenings x, int m, int c, int above, int below) {
        check.due("doze(" + m + ", " + c + ", 0)", x.doze(m, c, 0), above);
        check.due("doze(" + m + ", " + c + ", 1)", x.doze(m, c, 1), below);
    }

    private static void dozeNeverAndAlways() {
        check.sentence("DOZE by c of 10 (0 .. 10)");
        DullEvenings x = Check.told("5;p6");
        odds(x, 1, 0, 1, 1);
        odds(x, 1, 1, 9, 10);
        odds(x, 1, 9, 1, 10);
        odds(x, 1, 10, 0, 1);
        DullEvenings both = Check.told("2;p6");
        odds(both, 1, 0, 1, 1);
        odds(both, 1, 10, 1, 1);
        odds(both, 1, 5, 1, 1);
        DullEvenings never = Check.told("6;p6");
        odds(never, 1, 0, 0, 1);
        odds(never, 1, 5, 0, 1);
    }

    private static void dozeByHalf() {
        check.sentence("DOZE: (the tale COSTS half), cut");
        // 7 and half of it, 3; 19 and 9.
        odds(Check.told("3;p7"), 1, 10, 0, 1);
        odds(Check.told("2;p7"), 1, 10, 1, 1);
        odds(Check.told("9;p19"), 1, 10, 0, 1);
        odds(Check.told("8;p19"), 1, 10, 1, 1);
        odds(Check.told("60-60;p1"), 1, 10, 0, 1);
        odds(Check.told("60-60;p2"), 1, 10, 1, 1);
        // Half of what it costs: an umbrella's 3 more too, a wit's 4 less, a tap's half.
        odds(Check.told("9;u16"), 1, 10, 0, 1);
        odds(Check.told("8;u16"), 1, 10, 1, 1);
        odds(Check.told("3;w10"), 1, 10, 0, 1);
        odds(Check.told("2;w10"), 1, 10, 1, 1);
        DullEvenings tap = Check.told("60-59;t15");
        tap.evenings(1);
        tap.rest(0, 3);
        odds(tap, 1, 10, 0, 1);
        DullEvenings less = Check.told("60-59;t15");
        less.evenings(1);
        less.rest(0, 2);
        odds(less, 1, 10, 1, 1);
    }

    private static void dozeByMany() {
        check.sentence("DOZE: how likely m (0 .. 5) at least LOOK");
        DullEvenings x = Check.told("5,5,5,5,5;p8,p8,p8,p8,p8");
        int[] above = {1, 31, 13, 1, 3, 1};
        int[] below = {1, 32, 16, 2, 16, 32};
        for (int m = 0; m <= 5; m++) {
            odds(x, m, 5, above[m], below[m]);
        }
        odds(x, 5, 1, 59049, 100000);
        odds(x, 5, 0, 1, 1);
        odds(x, 1, 10, 0, 1);
        DullEvenings none = new DullEvenings();
        odds(none, 0, 5, 1, 1);
        odds(none, 1, 5, 0, 1);
        odds(none, 5, 0, 0, 1);
        check.sentence("DOZE: each HEARER who has a TELLER");
        DullEvenings y = Check.told("1-1,1-1,1-1;p8!0");
        odds(y, 1, 5, 1, 1);
        odds(y, 2, 5, 0, 1);
        y.turn(2);
        odds(y, 1, 0, 1, 1);
        DullEvenings t = new DullEvenings();
        t.teller(0, 20);
        odds(t, 1, 0, 0, 1);
    }

    private static void dozeInLowestTerms() {
        check.sentence("DOZE: a fraction in lowest terms");
        DullEvenings x = Check.told("5;p6");
        int[] above = {1, 9, 4, 7, 3, 1, 2, 3, 1, 1, 0};
        int[] below = {1, 10, 5, 10, 5, 2, 5, 10, 5, 10, 1};
        for (int c = 0; c <= 10; c++) {
            odds(x, 1, c, above[c], below[c]);
        }
        DullEvenings y = Check.told("5,5;p6,p6");
        odds(y, 2, 4, 9, 25);
        odds(y, 1, 4, 21, 25);
        odds(y, 1, 2, 24, 25);
        odds(y, 0, 3, 1, 1);
    }

    private static void images() {
        check.sentence("Promise 28: All but SHEETS, THE TAPE is kept as an IMAGE: 1; promise 29: All is as it was then: 1");
        DullEvenings x = Check.told("60-9,30;p4,d6!2");
        x.evenings(10);
        x.seed(99);
        check.due("image()", x.image(), 1);
        DullEvenings y = Check.told("60-9,30;p4,d6!2");
        y.evenings(10);
        y.seed(99);
        y.image();
        Check.tell(x, "1,1,1,1,1;p1,p1,p1,p1,p1!4");
        x.seed(1);
        x.evenings(3);
        check.due("restore()", x.restore(), 1);
        twins.unchanged("restore() of what is so", () -> imaged(), z -> z.restore(), 1);
        for (int what = 0; what <= 8; what++) {
            check.due("count(" + what + ")", x.count(what), y.count(what));
        }
        for (int i = 0; i < 2; i++) {
            for (int what = 0; what <= 4; what++) {
                check.due("at(" + i + ", " + what + ")", x.at(i, what), y.at(i, what));
                check.due("of(" + i + ", " + what + ")", x.of(i, what), y.of(i, what));
            }
        }
        check.due("THE DRAW", x.seed(99), 99);
        for (int n = 7; n >= 0; n--) {
            check.due("undo()", x.undo(), n);
            check.due("EVENING", x.count(3), n + 2);
            y.undo();
            check.due("BEARS", x.at(0, 1), y.at(0, 1));
        }
        check.due("older ones are lost", x.undo(), NONE);
        check.due("restore() once more", x.restore(), 1);
        check.due("to be undone once more", x.count(8), 8);
    }

    private static void imagesOfEachPast() {
        check.sentence("Promise 29: All is as it was then (what may be UNDONE too)");
        for (int done = 0; done <= 17; done++) {
            DullEvenings x = Check.told("60;p1");
            for (int i = 0; i < done; i++) {
                x.evenings(1);
            }
            x.image();
            x.evenings(20);
            x.restore();
            int known = Math.min(8, done);
            check.due("known of " + done, x.count(8), known);
            for (int i = 1; i <= known; i++) {
                check.due("undo()", x.undo(), known - i);
                check.due("EVENING", x.count(3), done - i);
                check.due("BEARS", x.at(0, 1), 60 - (done - i));
            }
            check.due("undo()", x.undo(), NONE);
        }
    }

    private static DullEvenings imaged() {
        DullEvenings x = Shires.some();
        x.image();
        return x;
    }

    private static void imagesOfTheEnds() {
        check.sentence("Promise 29: NONE: there is none; an IMAGE of nobody is one");
        DullEvenings x = new DullEvenings();
        check.due("none", x.restore(), NONE);
        check.due("of an empty list", x.image(), 1);
        Check.tell(x, "9,9;p1,p1");
        x.evenings(5);
        check.due("restore()", x.restore(), 1);
        int[] counts = {0, 0, 0, 0, 0, 1, 0, 0, 0};
        for (int what = 0; what <= 8; what++) {
            check.due("count(" + what + ")", x.count(what), counts[what]);
        }
        check.due("nothing known", x.undo(), NONE);
        check.due("a new hearer", x.hearer(7), 0);
        check.due("never LOOKED", x.at(0, 2), 0);
        check.due("a new teller", x.teller(0, 7), 0);
        check.due("never HEARD", x.heard(0, 0), 0);
        check.sentence("Promise 28: SHEETS, THE TAPE are not of it");
        x.type('9');
        x.sheet(0, 0, 2);
        x.image();
        x.type(';');
        x.drop(0);
        x.sheet(1, 1, 3);
        x.restore();
        check.due("THE TAPE goes on", x.type('p'), 3);
        check.due("what was dropped is gone", x.drop(0), -11);
        check.due("what came stays", x.drop(1), 3);
        check.sentence("Promise 28: the latest IMAGE is the one");
        x.evenings(1);
        x.image();
        x.evenings(1);
        x.restore();
        check.due("EVENING", x.count(3), 1);
    }
}
