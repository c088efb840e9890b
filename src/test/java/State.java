/** All that an object tells, but for the status, as a text: what a call changes can be seen by it. */
final class State {
    private final AskingCourt court;
    private final StringBuilder text = new StringBuilder();

    private State(AskingCourt court) {
        this.court = court;
    }

    /** No call here changes what another one tells. */
    static String of(AskingCourt court) {
        State state = new State(court);
        state.add("fraction", court.top(), court.bottom());
        state.add("fault", court.fault(0), court.fault(1));
        state.addTrays();
        state.addCase();
        state.addHeard();
        state.addFound();
        return state.text.toString();
    }

    private void add(String what, long... numbers) {
        text.append(what);
        for (long number : numbers) {
            text.append(' ').append(number);
        }
        text.append('\n');
    }

    private void addTrays() {
        for (int t = 0; t < 4; t++) {
            for (int place = 0; place < 61; place++) {
                add("tray " + t, court.read(t, place), court.status());
            }
        }
    }

    private void addCase() {
        for (int what = 0; what < 8; what++) {
            add("told " + what, court.told(what));
        }
        for (int v = 0; v < court.told(1); v++) {
            add("value " + v, court.value(v, 0), court.value(v, 1));
        }
        for (int w = 0; w < court.told(2); w++) {
            add("world " + w, court.possible(w), court.isLeft(w));
            for (int q = 0; q < court.told(3); q++) {
                add("holds " + q, court.holds(q, w), court.fee(q));
                for (int v = 0; v < court.told(4); v++) {
                    add("answers", court.answer(v, q, w, 0), court.answer(v, q, w, 1), court.answer(v, q, w, 2),
                            court.fits(v, 0, w), court.fits(v, 1, w), court.fits(v, 2, w), court.fits(v, 3, w));
                }
            }
        }
        for (int v = 0; v < court.told(4); v++) {
            for (int what = 0; what < 6; what++) {
                add("witness " + v, court.witness(v, what));
            }
        }
    }

    private void addHeard() {
        for (int k = 0; k < court.told(6); k++) {
            add("heard " + k, court.heard(k, 0), court.heard(k, 1), court.heard(k, 2), court.heard(k, 3), court.gave(k));
        }
        for (int q = 0; q < court.told(3); q++) {
            add("sure " + q, court.sure(q), court.because(q));
            for (int v = 0; v < court.told(4); v++) {
                add("worst " + q + " " + v, court.worst(v, q), court.status(), court.best(v));
            }
        }
        add("left", court.left(), court.fees(), court.settled(), court.bench(), court.clash(), court.liars());
    }

    private void addFound() {
        for (int what = 0; what < 6; what++) {
            add("sat " + what, court.sat(what));
        }
        add("first", court.shortestFirst(0), court.shortestFirst(1));
        add("tally", court.tally(0, 30, 0), court.tally(0, 30, 1), court.tally(7000, 30, 0));
    }
}
