/** Objects in the states from which refused calls are tried. */
final class Shires {
    private Shires() {
    }

    /** Nobody, nothing to be undone, no image, no sheets. */
    static DullEvenings empty() {
        return new DullEvenings();
    }

    /** Three hearers and two tellers, with a past, an image, a tape, and sheets 0 and 1 of lanes 2 and 0. */
    static DullEvenings some() {
        DullEvenings x = Check.told("60-9,30-5,7;p4,d6");
        x.evenings(2);
        x.seed(4711);
        x.image();
        x.spin(0, 1);
        x.drift(1);
        x.rest(1, 2);
        x.step(2);
        x.turn(2);
        addTapeAndSheets(x);
        return x;
    }

    /** Five hearers and five tellers, the first of each at his bound, eight things to be undone. */
    static DullEvenings full() {
        DullEvenings x = Check.told("60,50-9,41-3,30,2;p20,d5,t9,w8,u7!0");
        x.image();
        x.drift(3);
        x.evenings(6);
        x.turn(1);
        x.rest(0, 60);
        addTapeAndSheets(x);
        return x;
    }

    private static void addTapeAndSheets(DullEvenings x) {
        x.type('6');
        x.type('0');
        int sixth = x.at(0, 1) - 6;
        x.sheet(0, 2, 3);
        x.item(0, 2, 1, sixth);
        x.item(0, 2, 2, sixth - 3);
        x.sheet(1, 0, 2);
        x.item(1, 0, 0, sixth + 1);
    }
}
