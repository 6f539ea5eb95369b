/** Promises 35 and 36: ACTS, each with its TRACE. */
final class ActTests {
    private ActTests() {
    }

    static void run(Tally t) {
        promise35(t);
        everyKind(t);
        promise35None(t);
        promise36(t);
    }

    private static void act(Tally t, OneSledgeForTwo x, int rider, int act, int at, int due, int... bodies) {
        String what = "act(" + rider + ", " + act + ", " + at + ")";
        t.due("35: " + what, x.act(rider, act, at), due);
        for (int i = 0; i < bodies.length; i++) {
            t.due("36: trace(" + i + ") of " + what, x.trace(i), bodies[i]);
        }
        t.due("36: none behind of " + what, x.trace(bodies.length), -1);
        t.due("39: bodies of " + what, x.status(10), bodies.length);
    }

    private static void promise35(Tally t) {
        OneSledgeForTwo x = Texts.riders(0, 1, 0, 7, 0, 2, 3, 4);
        act(t, x, 1, 0, 5, 6, 10);
        act(t, x, 1, 1, 5, 12, 11, 10);
        act(t, x, 1, 2, 5, 12 ^ (5 - 7 + 1), 12, 11, 10, 10);
        // STEERER 3, a 4: rides x + 3 + 4
        act(t, x, 3, 0, 5, 12, 20, 10);
        act(t, x, 3, 1, 5, (6 + 3 + 4) * 2, 40, 11, 20, 10);
        act(t, x, 3, 2, 5, 26 ^ (1 + 3 + 4), 12, 40, 11, 20, 10, 20, 10);
        int most = Integer.MAX_VALUE;
        act(t, x, 1, 0, most, Integer.MIN_VALUE, 10);
        act(t, x, 1, 1, most, 0, 11, 10);
        act(t, x, 3, 1, most, (Integer.MIN_VALUE + 7) * 2, 40, 11, 20, 10);
    }

    private static void everyKind(Tally t) {
        // each as RIDER 1 with a 3, x 10
        int[][] bodies = {
            {10}, {11, 10}, {12, 11, 10, 10},
            {20, 10}, {11, 20, 10}, {12, 11, 20, 10, 20, 10},
            {10}, {30, 11, 10}, {12, 30, 11, 10, 10},
            {20, 10}, {40, 11, 20, 10}, {12, 40, 11, 20, 10, 20, 10},
            {51, 10}, {11, 51, 10}, {50, 12, 11, 51, 10, 51, 10},
            {10}, {30, 11, 10}, {60, 12, 30, 11, 10, 10},
            {70, 51, 10}, {71, 11, 70, 51, 10}, {50, 12, 71, 11, 70, 51, 10, 70, 51, 10}};
        int[] due = {
            11, 22, 22 ^ 8,
            14, 28, 28 ^ 11,
            11, 66, 66 ^ 8,
            14, 30, 30 ^ 11,
            10, 20, -(20 ^ 7),
            11, 66, 66 ^ 8 ^ 5,
            20, 28, -(28 ^ 14)};
        for (int kind = 0; kind < 7; kind++) {
            OneSledgeForTwo x = Texts.riders(0, 9, kind, 3);
            for (int act = 0; act < 3; act++) {
                act(t, x, 1, act, 10, due[3 * kind + act], bodies[3 * kind + act]);
            }
        }
    }

    private static void promise35None(Tally t) {
        OneSledgeForTwo x = Texts.riders(6, 1);
        x.act(0, 2, 3);
        t.due("35: no such RIDER", x.act(1, 0, 9), 0);
        t.due("36: no TRACE then", x.trace(0), -1);
        t.due("39: no bodies then", x.status(10), 0);
        x.act(0, 2, 3);
        t.due("35: no such RIDER below", x.act(-1, 0, 9), 0);
        t.due("36: no TRACE then either", x.trace(0), -1);
        x.act(0, 2, 3);
        t.due("35: no such act", x.act(0, 3, 9), 0);
        t.due("36: no TRACE of it", x.trace(0), -1);
        x.act(0, 2, 3);
        t.due("35: no such act below", x.act(0, -1, 9), 0);
        t.due("36: no TRACE of that", x.trace(0), -1);
        for (int refusal = 11; refusal <= 17; refusal++) {
            t.due("35: nothing refused: " + refusal, x.status(refusal), 0);
        }
    }

    private static void promise36(Tally t) {
        OneSledgeForTwo x = Texts.riders(6, 1);
        t.due("36: none yet", x.trace(0), -1);
        x.act(0, 2, 3);
        t.due("36: the tenth", x.trace(9), 10);
        t.due("36: no eleventh", x.trace(10), -1);
        t.due("36: below", x.trace(-1), -1);
        t.due("36: 20", x.trace(20), -1);
        t.due("36: least", x.trace(Integer.MIN_VALUE), -1);
        t.due("36: greatest", x.trace(Integer.MAX_VALUE), -1);
        x.image();
        x.restore();
        x.move(200);
        t.due("36: it stays", x.trace(0), 50);
        x.act(0, 0, 3);
        t.due("36: the latest alone", x.trace(3), -1);
        t.due("36: nothing refused", x.status(15) + x.status(11), 0);
    }
}
