/** The boundary cases of promises 7 and 8: THE TAPE, and lists as texts with their faults. */
public final class ListEdgesTest {
    private static final int FULL = -3, NONE = -4;
    private static final Check check = new Check("ListEdgesTest");

    public static void main(String[] args) {
        seventyLetters();
        emptyThen();
        oneToFiveHearers();
        mostNumbers();
        lessNumbers();
        oneToFiveTellers();
        kindLetters();
        longNumbers();
        steps();
        oneOrTwoDigits();
        whichLettersCanStand();
        firstDigitOfBoth();
        theEnd();
        blanks();
        inPlaceOfAll();
        check.end();
    }

    private static int answer(String text) {
        return Check.tell(new DullEvenings(), text);
    }

    private static void good(String text, int hearers) {
        check.due("'" + text + "'", answer(text), hearers);
    }

    private static void fault(String text, int place) {
        check.due("'" + text + "'", answer(text), -20 - place);
    }

    private static String repeat(String part, int times, String between) {
        StringBuilder text = new StringBuilder();
        for (int i = 0; i < times; i++) {
            text.append(i == 0 ? "" : between).append(part);
        }
        return text.toString();
    }

    private static void seventyLetters() {
        check.sentence("Promise 7: One letter more behind THE TAPE: how many it has. FULL: 70");
        DullEvenings x = new DullEvenings();
        for (int i = 1; i <= 70; i++) {
            check.due("letter " + i, x.type(31 + i), i);
        }
        check.due("letter 71", x.type(' '), FULL);
        check.due("letter 72", x.type('~'), FULL);
        check.due("BAD ahead of FULL", x.type(31), -1);
        check.due("the first that can't stand there is '!' at 1", x.list(), -21);
        check.due("the first of a new tape", x.type('9'), 1);
        String text = "60-60,60-60,60-60,60-60,60-60;p20,d20,t20,w20,u20!4";
        good(text + repeat(" ", 70 - text.length(), ""), 5);
        good(repeat(" ", 70 - text.length(), "") + text, 5);
        fault(repeat(" ", 70, ""), 70);
        // The letter behind the seventieth is lost, so that a tape of 71 reads as one of 70.
        good(repeat(" ", 66, "") + "9;p1" + "x", 1);
    }

    private static void emptyThen() {
        check.sentence("Promise 8: THE TAPE, which is empty then, is a LIST: how many HEARERS. A FAULT");
        DullEvenings x = new DullEvenings();
        check.due("an empty tape", x.list(), -20);
        check.due("a list", Check.tell(x, "9,8;p1"), 2);
        check.due("the tape is empty behind a list", x.list(), -20);
        check.due("the list stays", x.count(1), 2);
        check.due("a fault", Check.tell(x, "9,8;x"), -24);
        check.due("the tape is empty behind a fault", x.type('1'), 1);
        check.due("as the one letter", x.list(), -21);
    }

    private static void oneToFiveHearers() {
        check.sentence("A LIST is a TEXT: 1 to 5 HEARERS with , between");
        fault(";p1", 0);
        for (int n = 1; n <= 5; n++) {
            good(repeat("9", n, ",") + ";p1", n);
            good(repeat("19-19", n, ",") + ";p1", n);
        }
        fault(repeat("9", 6, ",") + ";p1", 9);
        fault(repeat("9-1", 6, ",") + ";p1", 19);
        fault(repeat("9", 6, " , ") + ";p1", 18);
        fault("9,,9;p1", 2);
        fault(",9;p1", 0);
        fault("9,;p1", 2);
        fault("9 9;p1", 2);
    }

    private static void mostNumbers() {
        check.sentence("a number 1 .. 60 (MOST)");
        for (int n = 0; n <= 99; n++) {
            boolean fits = n >= 1 && n <= 60;
            check.due(n + ";p1", answer(n + ";p1"), fits ? 1 : -20);
            check.due("9, " + n + ";p1", answer("9, " + n + ";p1"), fits ? 2 : -23);
            if (fits) {
                check.due("MOST " + n, Check.told(n + ";p1").at(0, 0), n);
                check.due("BEARS " + n, Check.told(n + ";p1").at(0, 1), n);
            }
        }
        check.due("01", Check.told("01;p1").at(0, 0), 1);
        fault("00;p1", 0);
    }

    private static void lessNumbers() {
        check.sentence("then perhaps - and a number 0 to MOST (so much less he BEARS)");
        int[] most = {1, 2, 9, 10, 11, 59, 60};
        for (int m : most) {
            for (int n = 0; n <= 99; n++) {
                String text = m + "-" + n + ";p1";
                int place = m < 10 ? 2 : 3;
                check.due(text, answer(text), n <= m ? 1 : -20 - place);
                if (n <= m) {
                    check.due(text + ": BEARS", Check.told(text).at(0, 1), m - n);
                    check.due(text + ": MOST", Check.told(text).at(0, 0), m);
                }
            }
        }
        check.due("-00", Check.told("9-00;p1").at(0, 1), 9);
        check.due("-09", Check.told("9-09;p1").at(0, 1), 0);
        fault("9-;p1", 2);
        fault("9--1;p1", 2);
        fault("9-1-1;p1", 3);
    }

    private static void oneToFiveTellers() {
        check.sentence("then ; and 1 to 5 TELLERS with , between");
        fault("9;", 2);
        fault("9", 1);
        fault("9p1", 1);
        fault("9,p1", 2);
        for (int n = 1; n <= 5; n++) {
            good("9;" + repeat("p1", n, ","), 1);
            check.due(n + " tellers", Check.told("9;" + repeat("u20", n, ",")).count(0), n);
        }
        fault("9;" + repeat("p1", 6, ","), 16);
        fault("9;" + repeat("p1", 6, " , "), 25);
        fault("9;p1,,p1", 5);
        fault("9;,p1", 2);
        fault("9;p1,", 5);
        fault("9;p1 p1", 5);
        fault("9;;p1", 2);
        fault("9;p1;p1", 4);
    }

    private static void kindLetters() {
        check.sentence("p d t w u (PLAIN, DRONE, TAP, WIT, UMBRELLA)");
        for (int letter = 33; letter <= 126; letter++) {
            int kind = "pdtwu".indexOf(letter);
            String text = "9;" + (char) letter + "1";
            check.due(text, answer(text), kind < 0 ? -22 : 1);
            if (kind >= 0) {
                check.due(text + ": KIND", Check.told(text).of(0, 0), kind);
            }
        }
    }

    private static void longNumbers() {
        check.sentence("a number 1 .. 20 (LONG)");
        for (int n = 0; n <= 99; n++) {
            boolean fits = n >= 1 && n <= 20;
            check.due("9;d" + n, answer("9;d" + n), fits ? 1 : -23);
            check.due("9;p1,w " + n, answer("9;p1,w " + n), fits ? 1 : -27);
            if (fits) {
                check.due("LONG " + n, Check.told("9;d" + n).of(0, 1), n);
            }
        }
        check.due("01", Check.told("9;p01").of(0, 1), 1);
        fault("9;p00", 3);
    }

    private static void steps() {
        check.sentence("then perhaps ! and a digit 0 .. 4 (STEP; else 1)");
        for (int v = 0; v <= 9; v++) {
            check.due("!" + v, answer("9;p1!" + v), v <= 4 ? 1 : -25);
            if (v <= 4) {
                check.due("STEP " + v, Check.told("9;p1!" + v).count(5), v);
            }
        }
        DullEvenings x = Check.told("9;p1!4");
        Check.tell(x, "9;p1");
        check.due("else 1, whatever it was", x.count(5), 1);
        fault("9;p1!", 5);
        fault("9;p1!!1", 5);
        fault("9;p1!00", 6);
        fault("9;p1!04", 6);
        fault("9;p1!12", 6);
        fault("9;p1!50", 5);
        fault("9;p1!1!1", 6);
        fault("9;p1!1,p1", 6);
        fault("9!1;p1", 1);
        fault("9;!1", 2);
    }

    private static void oneOrTwoDigits() {
        check.sentence("Numbers have 1 or 2 digits (a third one can't stand there)");
        fault("100;p1", 2);
        fault("600;p1", 2);
        fault("001;p1", 0);
        fault("010;p1", 2);
        fault("9-009;p1", 4);
        fault("60-600;p1", 5);
        fault("9;p200", 5);
        fault("9;p010", 5);
        fault("9;p001", 3);
        fault("1234567890;p1", 2);
        good("09-09;p09", 1);
        good("9-9;p9", 1);
    }

    /** Behind a text these letters can stand, and with some of them it is a LIST; others are faults. */
    private static void behind(String text, String ending, String going) {
        for (int letter = 32; letter <= 126; letter++) {
            String longer = text + (char) letter;
            int place = going.indexOf(letter) >= 0 ? longer.length() : text.length();
            int answer = answer(longer);
            boolean ends = ending.indexOf(letter) >= 0;
            check.due("'" + longer + "'", answer > 0 ? 0 : answer, ends ? 0 : -20 - place);
        }
    }

    private static void whichLettersCanStand() {
        check.sentence("FAULTS: -20 less the place of the first letter (behind blanks) that can't stand there");
        String digits = "0123456789";
        String aboveZero = "123456789";
        behind("", "", aboveZero + " ");
        behind("1", "", digits + "-,; ");
        behind("12", "", "-,; ");
        behind("1 ", "", "-,; ");
        behind("12-", "", digits + " ");
        behind("60-1", "", digits + ",; ");
        behind("60-12", "", ",; ");
        behind("60-1 ", "", ",; ");
        behind("1,", "", aboveZero + " ");
        behind("1,1,1,1", "", digits + "-,; ");
        behind("1,1,1,1,1", "", digits + "-; ");
        behind("1,1,1,1,60-1", "", digits + "; ");
        behind("1;", "", "pdtwu ");
        behind("1;p", aboveZero, " ");
        behind("1;p1", digits + " ", ",!");
        behind("1;p12", " ", ",!");
        behind("1;p1 ", " ", ",!");
        behind("1;p1,", "", "pdtwu ");
        behind("1;p1,d1,t1,w1", digits + " ", ",!");
        behind("1;p1,d1,t1,w1,u1", digits + " ", "!");
        behind("1;p1!", "01234", " ");
        behind("1;p1!1", " ", "");
        behind("1;p1!1 ", " ", "");
    }

    private static void firstDigitOfBoth() {
        check.sentence("or of the number's first digit, if it (by two digits at most) is not as told "
            + "(of both the first digit's)");
        fault("610;p1", 0);
        fault("999;p1", 0);
        fault("000;p1", 0);
        fault("  61;p1", 2);
        fault("61x", 0);
        fault("61", 0);
        fault("0", 0);
        fault("9,610;p1", 2);
        fault("9-100;p1", 2);
        fault("9-10x", 2);
        fault("60-61", 3);
        fault("60-610;p1", 3);
        fault("9;p210", 3);
        fault("9;p21x", 3);
        fault("9;p 000", 4);
        fault("9;p99", 3);
        check.sentence("by two digits at most: a third digit is none of the number");
        fault("111;p1", 2);
        fault("9;p111", 5);
        fault("60-111;p1", 5);
    }

    private static void theEnd() {
        check.sentence("the end: how many there are");
        String text = "60-12,5;p12,u20!";
        fault(text, text.length());
        fault("", 0);
        fault("60", 2);
        fault("60-", 3);
        fault("60-12", 5);
        fault("60-12,", 6);
        fault("60-12,5", 7);
        fault("60-12,5;", 8);
        fault("60-12,5;p", 9);
        fault("60-12,5;p12,", 12);
        fault("60-12,5;p12,u", 13);
        fault("60-12,5;p12,u20! ", 17);
        fault(" ", 1);
        fault("9  ", 3);
        fault("9 ;  ", 5);
        fault("9;p   ", 6);
    }

    private static void blanks() {
        check.sentence("blanks count for nothing, but end a number");
        good(" 6 - 5 , 7 ; p 2 , d 3 ! 0 ", 2);
        DullEvenings x = Check.told("   60   -   59   ;   u   20   !   4   ");
        check.due("BEARS", x.at(0, 1), 1);
        check.due("KIND", x.of(0, 0), 4);
        check.due("LONG", x.of(0, 1), 20);
        check.due("STEP", x.count(5), 4);
        fault("6 0;p1", 2);
        fault("6  0;p1", 3);
        fault("60-1 2;p1", 5);
        fault("9;p1 2", 5);
        fault("9;p1!1 2", 7);
        fault("9;p1!1   2", 9);
        fault("6 1;p1", 2);
        fault("   x", 3);
        fault("9 x", 2);
        fault("9;  x", 4);
        fault("9;p1  x", 6);
    }

    private static void inPlaceOfAll() {
        check.sentence("in place of all; EVENING 0, TURN 0, nothing counted (THE DRAW stays)");
        DullEvenings x = Check.told("9,9,9,9,9;p5,d5,t5,w5,u5!2");
        x.seed(31);
        x.evenings(7);
        x.spin(0, 9);
        check.due("one of each", Check.tell(x, "60-60;u20"), 1);
        int[] counts = {1, 1, 1, 0, 0, 1, 0, 0, 0};
        for (int what = 0; what <= 8; what++) {
            check.due("count(" + what + ")", x.count(what), counts[what]);
        }
        check.due("THE DRAW", x.seed(31), 31);
        check.due("no hearer 1", x.at(1, 0), -1);
        check.due("no teller 1", x.of(1, 0), -1);
        check.due("a new hearer", x.hearer(7), 1);
        check.due("LOOKED never", x.at(1, 2), 0);
        check.due("a new teller", x.teller(0, 7), 1);
        check.due("HEARD never", x.heard(0, 1) + x.heard(1, 1) + x.heard(1, 0) + x.heard(0, 0), 0);
        check.due("all five again", Check.tell(x, "1,2,3,4,5;p1,d2,t3,w4,u5"), 5);
        for (int i = 0; i < 5; i++) {
            check.due("MOST " + i, x.at(i, 0), i + 1);
            check.due("BEARS " + i, x.at(i, 1), i + 1);
            check.due("LOOKED " + i, x.at(i, 2), 0);
            check.due("HEARD " + i, x.at(i, 4), 0);
            check.due("has " + i, x.at(i, 3), i);
        }
        check.due("no IMAGE by a list", x.restore(), NONE);
    }
}
