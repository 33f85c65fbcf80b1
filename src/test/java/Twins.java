import java.util.List;

/** Objects made alike: one of them gets a call that is refused, and then they have to answer alike. */
final class Twins {
    /** A call on an object. */
    interface Call {
        long of(HowHigh x);
    }

    private final Due due;
    private final Scene.Made made;
    private final List<String> untouched;

    Twins(Due due, Scene.Made made) {
        this.due = due;
        this.made = made;
        untouched = Look.at(Scene.of(made));
    }

    /** The call answers so, and changes nothing that any other call tells. */
    void refused(String call, Call asked, long want) {
        HowHigh x = Scene.of(made);
        due.is(call, asked.of(x), want);
        unchanged(call, x);
    }

    /** The calls answer so, one after the other, on one object, and change nothing. */
    void unchanged(String call, HowHigh x) {
        List<String> seen = Look.at(x);
        int i = 0;
        while (i < seen.size() && i < untouched.size() && seen.get(i).equals(untouched.get(i))) {
            i++;
        }
        String first = i < seen.size() ? seen.get(i) : "nothing more";
        due.holds("behind " + call + ": " + first, i == seen.size() && i == untouched.size());
    }

    HowHigh one() {
        return Scene.of(made);
    }
}
