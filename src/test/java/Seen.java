import java.util.ArrayList;
import java.util.List;

/** All that can be seen of an object by calls on it. The calls use the object up. */
final class Seen {
    private final List<String> calls = new ArrayList<>();
    private final List<Integer> answers = new ArrayList<>();

    Seen(SmokeRings s) {
        for (int k = 1; k <= 5; k++) {
            note("told(" + k + ")", s.told(k));
        }
        for (int i = 0; i < s.count(7); i++) {
            note("trace(" + i + ")", s.trace(i));
        }
        lookAtRoom(s, "");
        lookAtSheets(s);
        lookAtWhatWaits(s, "");
        note("restore()", s.restore());
        lookAtRoom(s, "restored: ");
        lookAtWhatWaits(s, "restored: ");
        note("image()", s.image());
    }

    /** What is seen of an object of which one more act has answered an ERROR. */
    Seen withError(int error) {
        int k = -1000000000 - error;
        answers.set(k - 1, answers.get(k - 1) + 1);
        return this;
    }

    /** What is seen, whatever told() tells. */
    Seen withoutErrors() {
        for (int k = 1; k <= 5; k++) {
            answers.set(k - 1, 0);
        }
        return this;
    }

    /** The first call that two objects answer unlike, or an empty text. */
    String unlike(Seen other) {
        for (int i = 0; i < Math.min(calls.size(), other.calls.size()); i++) {
            if (!calls.get(i).equals(other.calls.get(i)) || !answers.get(i).equals(other.answers.get(i))) {
                return calls.get(i) + " answers " + answers.get(i) + ", not " + other.answers.get(i);
            }
        }
        return calls.size() == other.calls.size() ? "" : "one has more to be seen";
    }

    private void note(String call, int answer) {
        calls.add(call);
        answers.add(answer);
    }

    private void lookAtRoom(SmokeRings s, String when) {
        for (int what = 0; what <= 8; what++) {
            note(when + "count(" + what + ")", s.count(what));
        }
        for (int ring = 0; ring < s.count(1); ring++) {
            for (int what = 0; what <= 6; what++) {
                note(when + "ofRing(" + ring + ", " + what + ")", s.ofRing(ring, what));
            }
        }
        for (int law = 0; law < s.count(3); law++) {
            for (int what = 0; what <= 2; what++) {
                note(when + "ofLaw(" + law + ", " + what + ")", s.ofLaw(law, what));
            }
        }
        note(when + "gives(0, 9, 7, 2)", s.gives(0, 9, 7, 2));
        note(when + "gives(0, 7, 9, 2)", s.gives(0, 7, 9, 2));
        note(when + "gives(1, 99, 50, 7)", s.gives(1, 99, 50, 7));
        note(when + "gives(1, 50, 999, 5)", s.gives(1, 50, 999, 5));
    }

    private void lookAtSheets(SmokeRings s) {
        // where there is no RING 0, none of the SHEETS could be looked at
        s.ring(200001000, 1, 3, 2004);
        for (int sheet = 0; sheet < 4; sheet++) {
            note("off(" + sheet + ")", s.off(sheet));
            note("put(" + sheet + ", 0, 98432)", s.put(sheet, 0, 98432));
            note("off(" + sheet + ")", s.off(sheet));
            note("move(" + sheet + ", 0, " + (sheet ^ 1) + ", 0, 0)", s.move(sheet, 0, sheet ^ 1, 0, 0));
            note("film(" + sheet + ")", s.film(sheet));
        }
    }

    private void lookAtWhatWaits(SmokeRings s, String when) {
        note(when + "check(0)", s.check(0));
        note(when + "text(0)", s.text(0));
        note(when + "gives(0, 3, 4, 5)", s.gives(0, 3, 4, 5));
        note(when + "wall(0)", s.wall(0));
    }
}
