import java.util.ArrayList;
import java.util.List;
import java.util.Random;

/** Promises 1 to 35: runs of drawn calls, each answer as the Model's, and nothing thrown. */
public final class ModelTest {
    private static final int RUNS = 400;
    private static final int CALLS = 512;
    private static final int[] EXTREMES = {Integer.MIN_VALUE, Integer.MIN_VALUE + 1, -65536, -256, -2, -1, 5, 6, 9,
        21, 24, 25, 40, 41, 60, 61, 62, 70, 100, 255, 256, 9999, 65536, Integer.MAX_VALUE - 1, Integer.MAX_VALUE};
    private static final Check check = new Check("ModelTest");

    private final Random random;
    private final DullEvenings x = new DullEvenings();
    private final Model model = new Model();
    private final List<String> calls = new ArrayList<>();
    private final int oddness;
    private final int change;

    private ModelTest(long seed) {
        random = new Random(seed);
        oddness = random.nextInt(12) + 3;
        change = random.nextInt(40) + 5;
    }

    public static void main(String[] args) {
        for (int run = 0; run < RUNS && !check.isWrong(); run++) {
            new ModelTest(run).play(run);
        }
        check.end();
    }

    private void play(int run) {
        int made = 0;
        while (made < CALLS) {
            int before = calls.size();
            try {
                made += random.nextInt(30) == 0 ? tellList() : oneCall();
            } catch (RuntimeException e) {
                check.due("run " + run + " threw " + e, 1, 0);
            }
            if (check.isWrong()) {
                System.out.println("run " + run + ", call " + before + ": " + calls);
                return;
            }
        }
    }

    private int from(int low, int high) {
        if (random.nextInt(oddness * 4) == 0) {
            return EXTREMES[random.nextInt(EXTREMES.length)];
        }
        if (random.nextInt(oddness * 4) == 0) {
            return random.nextBoolean() ? low - 1 : high + 1;
        }
        return low + random.nextInt(Math.max(1, high - low + 1));
    }

    private int hearerNumber() {
        return from(0, model.world.hearers.size() - 1);
    }

    private int tellerNumber() {
        return from(0, model.world.tellers.size() - 1);
    }

    private int due(String call, int got, int want) {
        calls.add(call + " -> " + got);
        check.due(call, got, want);
        return 1;
    }

    private String number(int low, int high) {
        int n = random.nextInt(25) == 0 ? random.nextInt(120) : low + random.nextInt(high - low + 1);
        return (n < 10 && random.nextInt(6) == 0 ? "0" : "") + n;
    }

    private String drawList() {
        StringBuilder text = new StringBuilder();
        int hearers = 1 + random.nextInt(random.nextInt(10) == 0 ? 6 : 5);
        for (int i = 0; i < hearers; i++) {
            int most = 1 + random.nextInt(60);
            text.append(i == 0 ? "" : ",").append(random.nextInt(12) == 0 ? number(1, 60) : "" + most);
            text.append(random.nextInt(3) == 0 ? "-" + number(0, most) : "");
        }
        text.append(';');
        int tellers = 1 + random.nextInt(random.nextInt(10) == 0 ? 6 : 5);
        for (int i = 0; i < tellers; i++) {
            text.append(i == 0 ? "" : ",").append("pdtwu".charAt(random.nextInt(5))).append(number(1, 20));
        }
        text.append(random.nextBoolean() ? "!" + random.nextInt(random.nextInt(10) == 0 ? 12 : 5) : "");
        for (int i = random.nextInt(4); i > 0; i--) {
            text.insert(random.nextInt(text.length() + 1), ' ');
        }
        if (random.nextInt(3) == 0) {
            int place = random.nextInt(text.length());
            String letters = "0123456789,;-!pdtwux ";
            char letter = letters.charAt(random.nextInt(letters.length()));
            switch (random.nextInt(4)) {
                case 0 -> text.setCharAt(place, letter);
                case 1 -> text.insert(place, letter);
                case 2 -> text.deleteCharAt(place);
                default -> text.setLength(place);
            }
        }
        return text.toString();
    }

    private int tellList() {
        String text = drawList();
        for (int i = 0; i < text.length(); i++) {
            due("type(" + (int) text.charAt(i) + ")", x.type(text.charAt(i)), model.type(text.charAt(i)));
        }
        due("list() of '" + text + "'", x.list(), model.list());
        return text.length() + 1;
    }

    private int oneCall() {
        int kind = random.nextInt(100);
        return kind < change ? doing() : kind < change + 15 ? looking() : kind < change + 35 ? sheets() : foretelling();
    }

    private int doing() {
        int a = hearerNumber();
        int b = tellerNumber();
        switch (random.nextInt(14)) {
            case 0: {
                int kind = from(0, 4);
                int lasts = from(1, 20);
                return due("teller(" + kind + ", " + lasts + ")", x.teller(kind, lasts), model.teller(kind, lasts));
            }
            case 1: {
                int most = from(1, 60);
                return due("hearer(" + most + ")", x.hearer(most), model.hearer(most));
            }
            case 2: {
                int n = from(1, 60);
                return due("rest(" + a + ", " + n + ")", x.rest(a, n), model.rest(a, n));
            }
            case 3: {
                int n = from(1, 20);
                return due("spin(" + b + ", " + n + ")", x.spin(b, n), model.spin(b, n));
            }
            case 4: {
                int v = from(0, 4);
                return due("step(" + v + ")", x.step(v), model.step(v));
            }
            case 5: {
                int v = from(0, model.world.seats() - 1);
                return due("turn(" + v + ")", x.turn(v), model.turn(v));
            }
            case 6: {
                int v = random.nextInt(5) == 0 ? from(0, 9) : random.nextInt() >>> 1;
                return due("seed(" + v + ")", x.seed(v), model.seed(v));
            }
            case 7:
                return due("image()", x.image(), model.image());
            case 8:
                return random.nextBoolean() ? 0 : due("restore()", x.restore(), model.restore());
            case 9:
                return due("undo()", x.undo(), model.undo());
            case 10: {
                int n = from(1, random.nextBoolean() ? 40 : 3);
                return due("drift(" + n + ")", x.drift(n), model.drift(n));
            }
            case 11: {
                int letter = from(32, 126);
                return random.nextInt(4) > 0 ? 0 : due("type(" + letter + ")", x.type(letter), model.type(letter));
            }
            default: {
                int n = from(1, random.nextBoolean() ? 40 : 3);
                return due("evenings(" + n + ")", x.evenings(n), model.evenings(n));
            }
        }
    }

    private int looking() {
        int a = hearerNumber();
        int b = tellerNumber();
        int what = from(0, 4);
        switch (random.nextInt(4)) {
            case 0:
                return due("of(" + b + ", " + what + ")", x.of(b, what), model.of(b, what));
            case 1:
                return due("at(" + a + ", " + what + ")", x.at(a, what), model.at(a, what));
            case 2:
                return due("heard(" + a + ", " + b + ")", x.heard(a, b), model.heard(a, b));
            default: {
                int which = from(0, 8);
                return due("count(" + which + ")", x.count(which), model.count(which));
            }
        }
    }

    private int foretelling() {
        int a = hearerNumber();
        int b = tellerNumber();
        int n = from(0, 60);
        switch (random.nextInt(10)) {
            case 0: {
                int what = from(0, 2);
                return due("ahead(" + a + ", " + n + ", " + what + ")", x.ahead(a, n, what), model.ahead(a, n, what));
            }
            case 1:
                return due("then(" + a + ", " + b + ", " + n + ")", x.then(a, b, n), model.then(a, b, n));
            case 2:
                return due("first(" + a + ")", x.first(a), model.first(a));
            case 3:
                return due("all()", x.all(), model.all());
            case 4:
                return due("left(" + a + ", " + n + ")", x.left(a, n), model.left(a, n));
            case 5: {
                int m = from(1, 40);
                int what = from(0, 2);
                return due("pace(" + m + ", " + what + ")", x.pace(m, what), model.pace(m, what));
            }
            case 6: {
                int m = from(1, 20);
                int k = from(-1, model.world.tellers.size() - 1);
                return due("seating(" + m + ", " + k + ")", x.seating(m, k), model.seating(m, k));
            }
            case 7: {
                int m = from(1, random.nextBoolean() ? 40 : 8);
                return due("needs(" + a + ", " + m + ")", x.needs(a, m), model.needs(a, m));
            }
            case 8: {
                int what = from(0, 1);
                return due("spare(" + what + ")", x.spare(what), model.spare(what));
            }
            default: {
                int m = from(0, 5);
                int c = from(0, 10);
                int what = from(0, 1);
                return due("doze(" + m + ", " + c + ", " + what + ")", x.doze(m, c, what), model.doze(m, c, what));
            }
        }
    }

    /** The lane that a sheet has, mostly. */
    private int laneOf(int sheet) {
        Object row = sheet < 0 || sheet > 3 ? null : model.sheets[sheet];
        if (row == null || random.nextInt(12) == 0) {
            return from(0, 3);
        }
        return row instanceof byte[] ? 0 : row instanceof short[] ? 1 : row instanceof int[] ? 2 : 3;
    }

    private int sheets() {
        int a = hearerNumber();
        int b = tellerNumber();
        int sheet = from(0, 3);
        int lane = laneOf(sheet);
        int i = from(0, random.nextBoolean() ? 1 : 23);
        switch (random.nextInt(12)) {
            case 0:
            case 1: {
                int newLane = from(0, random.nextBoolean() ? 1 : 3);
                int n = from(0, 24);
                return due("sheet(" + sheet + ", " + newLane + ", " + n + ")", x.sheet(sheet, newLane, n),
                    model.sheet(sheet, newLane, n));
            }
            case 2:
                return random.nextInt(4) > 0 ? 0 : due("drop(" + sheet + ")", x.drop(sheet), model.drop(sheet));
            case 3:
            case 4: {
                long v = random.nextBoolean() ? random.nextInt(61) : random.nextLong();
                return due("item(" + sheet + ", " + lane + ", " + i + ", " + v + ")", x.item(sheet, lane, i, v),
                    model.item(sheet, lane, i, v));
            }
            case 5:
            case 6: {
                int to = from(0, 3);
                int j = from(0, random.nextBoolean() ? 3 : 24);
                int n = from(0, random.nextBoolean() ? 6 : 24);
                return due("copy(" + sheet + ", " + i + ", " + to + ", " + j + ", " + n + ")",
                    x.copy(sheet, i, to, j, n), model.copy(sheet, i, to, j, n));
            }
            case 7:
            case 8: {
                int n = from(1, 24 - Math.max(0, Math.min(23, i)));
                return due("film(" + a + ", " + n + ", " + sheet + ", " + lane + ", " + i + ")",
                    x.film(a, n, sheet, lane, i), model.film(a, n, sheet, lane, i));
            }
            default: {
                int n = from(1, random.nextBoolean() ? 2 : 8);
                int what = from(0, 2);
                return due("borne(" + a + ", " + b + ", " + sheet + ", " + lane + ", " + i + ", " + n + ", " + what + ")",
                    x.borne(a, b, sheet, lane, i, n, what), model.borne(a, b, sheet, lane, i, n, what));
            }
        }
    }
}
