import java.util.ArrayList;
import java.util.List;
import java.util.function.Supplier;
import java.util.function.ToIntFunction;

/**
 * Two objects made alike, one of which is asked for what must change nothing: whatever both are
 * asked then, they answer alike. An object is used for fewer than 512 calls.
 */
final class Twins {
    private final Check check;

    Twins(Check check) {
        this.check = check;
    }

    /** The call answers what is due and changes nothing. */
    void unchanged(String call, Supplier<DullEvenings> making, ToIntFunction<DullEvenings> asking, int due) {
        DullEvenings asked = making.get();
        check.due(call, asking.applyAsInt(asked), due);
        alike(call, making.get(), asked);
    }

    /** The same, but for THE TAPE, which is empty then. */
    void unchangedButTape(String call, Supplier<DullEvenings> making, ToIntFunction<DullEvenings> asking, int due) {
        DullEvenings asked = making.get();
        check.due(call, asking.applyAsInt(asked), due);
        DullEvenings other = making.get();
        other.list();
        alike(call, other, asked);
    }

    private void alike(String call, DullEvenings x, DullEvenings y) {
        List<Integer> left = everything(x);
        List<Integer> right = everything(y);
        check.due(call + ": how much there is then", right.size(), left.size());
        for (int i = 0; i < Math.min(left.size(), right.size()); i++) {
            check.due(call + ": answer " + i + " of what is asked then", right.get(i), left.get(i));
        }
    }

    /** All that can be asked of an object, by some 400 calls at most that use it up. */
    private static List<Integer> everything(DullEvenings x) {
        List<Integer> answers = new ArrayList<>();
        addPeople(x, answers);
        int draw = x.seed(1);
        x.seed(draw);
        answers.add(draw);
        for (int sheet = 0; sheet < 4; sheet++) {
            addSheet(x, sheet, answers);
        }
        addPast(x, answers);
        answers.add(x.type(';'));
        answers.add(x.list());
        answers.add(x.restore());
        addPast(x, answers);
        return answers;
    }

    private static void addPeople(DullEvenings x, List<Integer> answers) {
        for (int what = 0; what <= 8; what++) {
            answers.add(x.count(what));
        }
        int tellers = x.count(0);
        int hearers = x.count(1);
        for (int h = 0; h < hearers; h++) {
            for (int what = 0; what <= 4; what++) {
                answers.add(x.at(h, what));
            }
            for (int t = 0; t < tellers; t++) {
                answers.add(x.heard(h, t));
            }
        }
        for (int t = 0; t < tellers; t++) {
            for (int what = 0; what <= 4; what++) {
                answers.add(x.of(t, what));
            }
        }
    }

    /** The lane, the items (seen by which tale would leave so much to bear), and how many. */
    private static void addSheet(DullEvenings x, int sheet, List<Integer> answers) {
        int teller = Math.max(0, x.at(0, 3));
        int lane = 0;
        while (lane < 3 && x.borne(0, teller, sheet, lane, 0, 1, 1) == -12) {
            lane++;
        }
        answers.add(lane);
        for (int i = 0; i < 24; i++) {
            int set = x.borne(0, teller, sheet, lane, i, 1, 1);
            answers.add(set);
            if (set < 0) {
                break;
            }
        }
        answers.add(x.drop(sheet));
    }

    private static void addPast(DullEvenings x, List<Integer> answers) {
        int tellers = x.count(0);
        int hearers = x.count(1);
        for (int i = 0; i < 9; i++) {
            for (int what = 3; what <= 7; what++) {
                answers.add(x.count(what));
            }
            for (int h = 0; h < hearers; h++) {
                answers.add(x.at(h, 1));
            }
            for (int t = 0; t < tellers; t++) {
                answers.add(x.of(t, 1));
            }
            answers.add(x.seed(77));
            int more = x.undo();
            answers.add(more);
            if (more < 0) {
                break;
            }
        }
    }
}
