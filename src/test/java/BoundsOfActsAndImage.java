/** Promises 24 to 29, sentence by sentence: acts and their trace, kinds over one another, the image, counts. */
public final class BoundsOfActsAndImage extends Due {
    public static void main(String[] args) {
        runAll(BoundsOfActsAndImage.class);
    }

    // ---- promise 24: act

    static void actOfNoCordOrAct() {
        sentence(24, "0, and no TRACE then: no such CORD, act.");
        AnyNail x = with(3, CORD, 0, "");
        for (int cord = 1; cord <= 6; cord++) {
            noAct(x, cord, 0);
        }
        noAct(x, -1, 0);
        noAct(x, 0, 3);
        noAct(x, 0, -1);
        noAct(x, 1, 3);
        for (int far : farNumbers()) {
            noAct(x, far, 0);
            noAct(x, 0, far);
        }
        noAct(new AnyNail(), 0, 0);
    }

    private static void noAct(AnyNail x, int cord, int act) {
        x.act(0, 2, 7);
        due("act(" + cord + ", " + act + ", 7)", 0, x.act(cord, act, 7));
        due("bodies that ran", 0, x.count(4));
        due("the first body", NONE, x.trace(0));
        due("the second body", NONE, x.trace(1));
    }

    static void actsAreZeroToTwo() {
        sentence(24, "An ACT (0 winds, 1 hangs, 2 tells) of a CORD with x.");
        AnyNail x = with(3, CORD, 5, "");
        x.cord(CORD, 5);
        acts(x, 1, 0, 10, 11, 1);
        acts(x, 1, 1, 10, 6, 2, 1);
        acts(x, 1, 2, 10, 12, 3, 2, 1);
    }

    static void actsHaveTheNumbersOfTheCord() {
        sentence(24, "winds, hangs, tells; i its number.");
        AnyNail x = new AnyNail();
        for (int i = 0; i < 5; i++) {
            x.cord(CORD, 9 - i);
            acts(x, i, 0, 0, i, 1);
            acts(x, i, 1, 0, i - (9 - i), 2, 1);
        }
    }

    static void actsWrap() {
        sentence(24, "ACTS of a CORD with x (ints, wrapping)");
        AnyNail x = new AnyNail();
        x.cord(CORD, 9);
        x.cord(CORD, 0);
        acts(x, 1, 0, MOST_INT, LEAST_INT, 1);
        acts(x, 0, 1, LEAST_INT, MOST_INT - 8, 2, 1);
        acts(x, 1, 2, MOST_INT - 1, -2, 3, 2, 1);
        acts(x, 1, 2, MOST_INT, 0, 3, 2, 1);
        acts(x, 1, 2, (1 << 30) - 1, LEAST_INT, 3, 2, 1);
        x = new AnyNail();
        x.cord(ROUND, 0);
        x.cord(ROUGH, 1);
        x.cord(HEAVY, 2);
        acts(x, 0, 0, MOST_INT, MOST_INT - 2, 11, 1);
        acts(x, 0, 0, LEAST_INT, LEAST_INT, 11, 1);
        acts(x, 0, 0, 1 << 30, -(1 << 30), 11, 1);
        acts(x, 1, 1, LEAST_INT, LEAST_INT, 21, 2, 1);
        acts(x, 1, 1, MOST_INT, LEAST_INT + 1, 21, 2, 1);
        acts(x, 2, 2, LEAST_INT, 7, 31, 3, 2, 1);
        x = new AnyNail();
        x.cord(TIED, 0);
        x.cord(SLIPPING, 0);
        x.cord(TOLD, 9);
        acts(x, 0, 2, LEAST_INT, 0, 41, 3, 2, 11, 1, 11, 1);
        acts(x, 1, 0, MOST_INT, LEAST_INT + 1, 51, 1);
        acts(x, 2, 1, MOST_INT, LEAST_INT + 1, 61, 2, 1);
    }

    static void bodiesOfEachKind() {
        sentence(24, "BODIES: CORD: 1 winds: x + i. 2 hangs: winds(x) - v. 3 tells: hangs(x) * 2. ROUND: 11 winds: "
            + "super.winds(x * 3). ROUGH: 21 hangs: -super.hangs(x). HEAVY: 31 tells: super.tells(x) ^ 7. TIED: 41 tells: "
            + "super.tells(x - 1) + winds(2). SLIPPING: 51 winds: super.winds(x) ^ i. TOLD: 61 hangs: super.hangs(x) + v.");
        AnyNail x = new AnyNail();
        x.cord(ROUND, 4);
        x.cord(ROUGH, 4);
        x.cord(HEAVY, 4);
        acts(x, 0, 0, 10, 30, 11, 1);
        acts(x, 1, 1, 10, -7, 21, 2, 1);
        acts(x, 2, 2, 10, 16 ^ 7, 31, 3, 2, 1);
        x = new AnyNail();
        x.cord(CORD, 4);
        x.cord(TIED, 4);
        x.cord(SLIPPING, 4);
        x.cord(TOLD, 4);
        acts(x, 1, 2, 10, 2 * (27 + 1 - 4) + 7, 41, 3, 2, 11, 1, 11, 1);
        acts(x, 2, 0, 10, 12 ^ 2, 51, 1);
        acts(x, 3, 1, 10, 13, 61, 2, 1);
    }

    static void bodiesOfTheKindAboveIfThereIsNone() {
        sentence(24, "winds(..) and so on: the body of its KIND, or, if that has none, of the next KIND above that has one;");
        AnyNail x = new AnyNail();
        x.cord(ROUND, 1);
        x.cord(ROUGH, 1);
        x.cord(HEAVY, 1);
        x.cord(TIED, 1);
        x.cord(SLIPPING, 1);
        acts(x, 0, 1, 2, 5, 2, 11, 1);
        acts(x, 0, 2, 2, 10, 3, 2, 11, 1);
        acts(x, 1, 0, 2, 3, 1);
        acts(x, 1, 2, 2, -4, 3, 21, 2, 1);
        acts(x, 2, 0, 2, 4, 1);
        acts(x, 2, 1, 2, 3, 2, 1);
        acts(x, 3, 0, 2, 9, 11, 1);
        acts(x, 3, 1, 2, 8, 2, 11, 1);
        acts(x, 4, 1, 2, -((6 ^ 4) - 1), 21, 2, 51, 1);
        acts(x, 4, 2, 2, -2 * ((6 ^ 4) - 1), 3, 21, 2, 51, 1);
        x = with(3, TOLD, 8, "");
        acts(x, 0, 0, 2, 2, 1);
        acts(x, 0, 2, 2, 4 ^ 7, 31, 3, 61, 2, 1);
    }

    private static void acts(AnyNail x, int cord, int act, int input, int want, int... bodies) {
        String call = "act(" + cord + ", " + act + ", " + input + ") of KIND " + x.of(cord, 0);
        due(call, want, x.act(cord, act, input));
        due(call + ", how many bodies", bodies.length, x.count(4));
        for (int i = 0; i < bodies.length; i++) {
            due(call + ", body " + i, bodies[i], x.trace(i));
        }
        due(call + ", behind the last body", NONE, x.trace(bodies.length));
    }

    // ---- promise 25: trace

    static void traceBehindItsEnds() {
        sentence(25, "THE TRACE's i-th body. NONE.");
        AnyNail x = with(3, TIED, 0, "");
        due("no act yet", NONE, x.trace(0));
        x.act(0, 2, 1);
        due("the first", 41, x.trace(0));
        due("the last", 1, x.trace(6));
        for (int i : new int[] {-1, 7, 8, 18, 19, 20, 21}) {
            due("trace " + i, NONE, x.trace(i));
        }
        for (int i : farNumbers()) {
            due("trace " + i, NONE, x.trace(i));
        }
    }

    static void traceOfTheLatestAct() {
        sentence(25, "THE TRACE: the numbers of the bodies that ran in the latest act(), as they began; the first 20 are kept.");
        AnyNail x = with(3, TIED, 0, "");
        x.cord(CORD, 0);
        x.act(0, 2, 1);
        x.act(1, 0, 1);
        due("the first of the latest", 1, x.trace(0));
        due("none of the one ahead", NONE, x.trace(1));
        due("one ran", 1, x.count(4));
        for (int i = 0; i < 30; i++) {
            x.act(0, 2, i);
        }
        int[] bodies = {41, 3, 2, 11, 1, 11, 1};
        for (int i = 0; i < bodies.length; i++) {
            due("body " + i + " as they began", bodies[i], x.trace(i));
        }
        due("none behind", NONE, x.trace(7));
        due("seven ran", 7, x.count(4));
    }

    // ---- promise 26: as

    static void asNoCordOrKind() {
        sentence(26, "NONE: cord, k; -6: it is of another KIND.");
        AnyNail x = with(3, ROUND, 5, "");
        due("k 0", 5, x.as(0, 0));
        due("k 6", OTHER_KIND, x.as(0, 6));
        due("k 7", NONE, x.as(0, 7));
        due("k -1", NONE, x.as(0, -1));
        for (int cord = 1; cord <= 6; cord++) {
            due("cord " + cord, NONE, x.as(cord, 0));
        }
        due("cord -1", NONE, x.as(-1, 0));
        due("neither", NONE, x.as(1, 7));
        due("no cord, of another KIND", NONE, x.as(1, 6));
        for (int far : farNumbers()) {
            due("cord " + far, NONE, x.as(far, 0));
            due("k " + far, NONE, x.as(0, far));
        }
    }

    static void asAKindOrOneUnderIt() {
        sentence(26, "A CORD taken for a KIND k (0 .. 6), or one under that: its v.");
        String[] under = {"1......", "11.....", "1.1....", "1..1...", "11..1..", "1.1..1.", "1..1..1"};
        for (int kind = 0; kind <= 6; kind++) {
            for (int v = 0; v <= 9; v += 9) {
                AnyNail x = with(3, kind, v, "");
                for (int k = 0; k <= 6; k++) {
                    boolean is = under[kind].charAt(k) == '1';
                    due("KIND " + kind + " taken for " + k, is ? v : OTHER_KIND, x.as(0, k));
                }
            }
        }
    }

    // ---- promise 27: image

    static void imageLeavesTheTrace() {
        sentence(27, "THE TRACE: the numbers of the bodies that ran in the latest act(), as they began;");
        AnyNail x = with(3, ROUND, 1, "");
        x.act(0, 1, 1);
        x.image();
        due("bodies", 3, x.count(4));
        due("the first", 2, x.trace(0));
        due("the last", 1, x.trace(2));
        x.cord(CORD, 1);
        x.weave(1, 3);
        x.nails(4);
        feedLaw(x, "a=1");
        x.see(0, false);
        due("bodies behind other calls", 3, x.count(4));
        due("the first behind other calls", 2, x.trace(0));
    }

    static void imageOfNoneToFive() {
        sentence(27, "THE IMAGE is taken: how many CORDS there are.");
        AnyNail x = new AnyNail();
        due("no CORDS", 0, x.image());
        for (int i = 1; i <= 5; i++) {
            x.cord(CORD, 0);
            due("CORDS", i, x.image());
        }
        due("again", 5, x.image());
        due("five are there", 5, x.count(0));
    }

    static void theLatestImageIsIt() {
        sentence(27, "THE IMAGE: all that there is (but THE IMAGE and THE TRACE).");
        AnyNail x = with(3, CORD, 0, "a");
        x.image();
        x.turn(0, 1, 0);
        due("taken again", 1, x.image());
        x.turn(0, 2, 0);
        due("undone", 1, x.undo());
        dueText("TURNS as by the later one", "ab", rowOf(x, 0, 100));
        x.turn(0, 2, 0);
        due("undone again", 1, x.undo());
        dueText("TURNS as by the later one again", "ab", rowOf(x, 0, 100));
    }

    // ---- promise 28: undo

    static void undoWithoutAnImage() {
        sentence(28, "All is as THE IMAGE: how many CORDS. STATE: there is none.");
        AnyNail x = new AnyNail();
        due("new", STATE, x.undo());
        x.cord(CORD, 0);
        due("one CORD", STATE, x.undo());
        due("it stays", 1, x.count(0));
        x.image();
        due("one image", 1, x.undo());
        due("it stays one", 1, x.undo());
    }

    static void undoToNothing() {
        sentence(28, "All is as THE IMAGE: how many CORDS.");
        AnyNail x = new AnyNail();
        x.image();
        x.nails(4);
        x.nail(3, 0, 9);
        x.nail(0, 1, 9);
        for (int i = 0; i < 5; i++) {
            addCord(x, CORD, 0, "d".repeat(9));
            feedLaw(x, "a=1");
        }
        x.feed('a');
        for (int i = 0; i < 8; i++) {
            x.see(i, true);
        }
        due("undone", 0, x.undo());
        due("NAILS", 3, x.told(0));
        due("PLACE of a nail that had gone", 0, x.nails(4) == 3 ? x.told(13) : -1);
        due("WEAK", 1, x.told(20));
        for (int what = 0; what <= 3; what++) {
            due("count " + what, 0, x.count(what));
        }
        due("no CORD", NONE, x.of(0, 0));
        due("no LAW", NONE, x.sets(0));
        due("THE IMAGE stays", 0, x.undo());
    }

    static void undoOfAllThatThereIs() {
        sentence(28, "All is as THE IMAGE");
        AnyNail x = with(4, TOLD, 3, "abd");
        x.set(0, 5, true);
        addCord(x, ROUGH, 9, "d".repeat(48));
        x.nail(0, 0, 99);
        x.nail(3, 1, 0);
        feedLaw(x, "n=1");
        x.feed('d');
        x.feed('=');
        x.see(5, true);
        due("the image", 2, x.image());
        x.set(0, 5, false);
        x.set(0, 0, true);
        x.turn(0, -1, 0);
        x.weave(1, 3);
        x.nails(2);
        x.nail(0, 0, 1);
        x.cord(HEAVY, 1);
        x.feed('x');
        x.law();
        feedLaw(x, "b=1");
        x.see(-1, false);
        x.see(0, false);
        due("undone", 2, x.undo());
        due("NAILS", 4, x.told(0));
        due("PLACE", 99, x.told(10));
        due("WEAK", 0, x.told(23));
        due("CORDS", 2, x.count(0));
        due("KIND", ROUGH, x.of(1, 0));
        due("v", 9, x.of(1, 1));
        dueText("TURNS", "abd", rowOf(x, 0, 100));
        dueText("TURNS of a full one", "d".repeat(48), rowOf(x, 1, 100));
        due("SETS told", 1 << 5, x.of(0, 4));
        due("LAWS", 1, x.count(1));
        due("SETS of the LAW", 1 << 1 | 1 << 2 | 1 << 4 | 1 << 8, x.sets(0));
        due("SEEN", 1, x.count(2));
        due("FITS", 1, x.fits());
        due("THE TAPE", 2, x.count(3));
        x.feed('1');
        due("THE TAPE goes on", 1, x.law());
        due("SETS of it", 0xFF00, x.sets(1));
    }

    static void undoOfWhatWasToldOfNailsThatHadGone() {
        sentence(28, "All is as THE IMAGE: how many");
        AnyNail x = new AnyNail();
        x.nails(4);
        for (int i = 0; i < 4; i++) {
            x.nail(i, 0, 50 + i);
            x.nail(i, 1, 5 + i);
        }
        x.cord(TOLD, 0);
        x.set(0, 15, true);
        x.see(15, true);
        x.nails(1);
        x.image();
        x.nails(4);
        for (int i = 0; i < 4; i++) {
            x.nail(i, 0, 0);
            x.nail(i, 1, 1);
        }
        x.set(0, 15, false);
        x.see(0, true);
        due("undone", 1, x.undo());
        due("one nail", 1, x.nails(4));
        for (int i = 0; i < 4; i++) {
            due("PLACE of " + i, 50 + i, x.told(10 + i));
            due("WEAK of " + i, 5 + i, x.told(20 + i));
        }
        due("by all four", 1, x.falls(0, 15));
        due("SEEN", 1, x.fits());
    }

    static void undoLeavesTheTrace() {
        sentence(28, "(but THE IMAGE and THE TRACE)");
        AnyNail x = with(3, CORD, 0, "");
        x.act(0, 0, 1);
        x.image();
        x.act(0, 2, 1);
        x.undo();
        due("bodies", 3, x.count(4));
        due("the first", 3, x.trace(0));
        due("the last", 1, x.trace(2));
        x.act(1, 0, 1);
        x.undo();
        due("no bodies", 0, x.count(4));
        due("no first one", NONE, x.trace(0));
    }

    // ---- promise 29: count

    static void countOfNoSuchWhat() {
        sentence(29, "4 bodies that ran in the latest act() (all, kept or not). NONE.");
        AnyNail x = with(3, TIED, 0, "");
        x.act(0, 2, 0);
        due("what 4 is the last", 7, x.count(4));
        due("what 5", NONE, x.count(5));
        due("what -1", NONE, x.count(-1));
        for (int what : farNumbers()) {
            due("what " + what, NONE, x.count(what));
        }
    }

    static void callsUpToThe512th() {
        sentence(29, "An object is used for at most 512 calls after it has been made;");
        AnyNail x = new AnyNail();
        x.cord(TIED, 1);
        for (int call = 2; call <= 509; call++) {
            if (call % 2 == 0) {
                due("call " + call, 0, x.turn(0, -1, 0));
            } else {
                due("call " + call, 10, x.weave(0, 7));
            }
        }
        due("call 510", 6, x.act(0, 0, 2));
        due("call 511", 2, x.count(4));
        due("call 512", 10, x.of(0, 2));
    }

    static void countsFromNoneToFull() {
        sentence(29, "0 CORDS, 1 LAWS, 2 of SEEN, 3 signs of THE TAPE, 4 bodies that ran");
        AnyNail x = new AnyNail();
        int[] most = {5, 5, 8, 100};
        for (int what = 0; what <= 4; what++) {
            due("none of " + what, 0, x.count(what));
        }
        for (int i = 0; i < 5; i++) {
            x.cord(CORD, 0);
            feedLaw(x, "a=1");
        }
        for (int i = 0; i < 8; i++) {
            x.see(0, true);
        }
        for (int i = 0; i < 100; i++) {
            x.feed('a');
        }
        for (int what = 0; what <= 3; what++) {
            due("full of " + what, most[what], x.count(what));
        }
    }
}
