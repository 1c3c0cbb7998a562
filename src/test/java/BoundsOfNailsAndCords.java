/** Promises 1 to 8, sentence by sentence: nails, cords, their turns, what is told of them. */
public final class BoundsOfNailsAndCords extends Due {
    public static void main(String[] args) {
        runAll(BoundsOfNailsAndCords.class);
    }

    // ---- promise 1: a new object

    static void newObjectHasThreeNailsAndNothingElse() {
        sentence(1, "Three NAILS, no CORDS, no LAW.");
        AnyNail x = new AnyNail();
        due("told(0)", 3, x.told(0));
        due("place of nail 2", 0, x.nail(2, 0, 5));
        due("place of nail 3", NONE, x.nail(3, 0, 5));
        due("of(0, 0)", NONE, x.of(0, 0));
        due("count(0)", 0, x.count(0));
        due("sets(0)", NONE, x.sets(0));
        due("count(1)", 0, x.count(1));
        due("nothing SEEN", 0, x.count(2));
        due("THE TAPE is empty", 0, x.count(3));
        due("no THE TRACE", NONE, x.trace(0));
        due("nothing ran", 0, x.count(4));
        due("no THE IMAGE", STATE, x.undo());
    }

    static void newPlacesAreZero() {
        sentence(1, "each in a PLACE (0 .. 99; 0 at first)");
        AnyNail x = new AnyNail();
        x.nails(4);
        for (int i = 0; i < 4; i++) {
            due("PLACE of " + i, 0, x.told(10 + i));
        }
    }

    static void newNailsAreWeakByOne() {
        sentence(1, "WEAK by 0 .. 10 (1 at first)");
        AnyNail x = new AnyNail();
        x.nails(4);
        for (int i = 0; i < 4; i++) {
            due("WEAK of " + i, 1, x.told(20 + i));
        }
    }

    static void constants() {
        sentence(1, "public static final int NONE = -1, BAD = -2, STATE = -3, FULL = -4;");
        due("NONE", -1, AnyNail.NONE);
        due("BAD", -2, AnyNail.BAD);
        due("STATE", -3, AnyNail.STATE);
        due("FULL", -4, AnyNail.FULL);
    }

    static void theNumberThatIsNone() {
        sentence(1, "`NO = Long.MIN_VALUE`: There is no such number.");
        due("NO", Long.MIN_VALUE, AnyNail.NO);
    }

    // ---- promise 2: nails

    static void nailsAreOneToFour() {
        sentence(2, "There are n NAILS (1 .. 4;");
        AnyNail x = new AnyNail();
        due("nails(1)", 3, x.nails(1));
        due("there is nail 0", 0, x.told(10));
        due("there is no nail 1", NONE, x.told(11));
        due("nails(4)", 1, x.nails(4));
        due("there is nail 3", 0, x.told(13));
        due("there is no nail 4", NONE, x.told(14));
        due("nails(2)", 4, x.nails(2));
        due("nails(3)", 2, x.nails(3));
        due("nails(3) again", 3, x.nails(3));
    }

    static void nailsTooFewOrTooMany() {
        sentence(2, "BAD; STATE: some CORD has a turn");
        AnyNail x = new AnyNail();
        due("nails(0)", BAD, x.nails(0));
        due("nails(-1)", BAD, x.nails(-1));
        due("nails(5)", BAD, x.nails(5));
        due("nails(6)", BAD, x.nails(6));
        for (int n : farNumbers()) {
            due("nails " + n, BAD, x.nails(n));
        }
        due("still three", 3, x.told(0));
    }

    static void nailsThatGoKeepPlaceAndWeak() {
        sentence(2, "what was told of others is kept");
        AnyNail x = new AnyNail();
        x.nails(4);
        for (int i = 0; i < 4; i++) {
            x.nail(i, 0, 96 + i);
            x.nail(i, 1, 7 + i);
        }
        x.nails(1);
        due("PLACE of the last one that stays", 96, x.told(10));
        due("WEAK of the last one that stays", 7, x.told(20));
        x.nails(4);
        for (int i = 0; i < 4; i++) {
            due("PLACE of " + i, 96 + i, x.told(10 + i));
            due("WEAK of " + i, 7 + i, x.told(20 + i));
        }
    }

    static void nailsThatGoKeepSetsLawsAndSeen() {
        sentence(2, "what was told of others is kept): how many there were");
        AnyNail x = with(4, TOLD, 0, "");
        x.set(0, 8, true);
        x.set(0, 15, true);
        feedLaw(x, "d=1&n<2|n>3");
        x.see(15, true);
        x.nails(1);
        due("SETS with one nail", 0, x.of(0, 4));
        due("SETS of the LAW with one nail", 0, x.sets(0));
        due("SEEN with one nail", 1, x.count(2));
        x.nails(4);
        due("SETS with four again", 1 << 8 | 1 << 15, x.of(0, 4));
        due("SETS of the LAW with four again", 1 << 8 | 1 << 15, x.sets(0));
        due("FITS with four again", 1, x.fits());
    }

    static void nailsThatWouldGoWithATurn() {
        sentence(2, "STATE: some CORD has a turn about one that would not be.");
        for (int nail = 0; nail < 4; nail++) {
            AnyNail x = new AnyNail();
            x.nails(4);
            x.cord(CORD, 0);
            x.turn(0, nail, nail % 2);
            for (int n = 1; n <= nail; n++) {
                due("a turn about " + nail + ", nails(" + n + ")", STATE, x.nails(n));
                due("four stay", 4, x.told(0));
            }
            due("a turn about " + nail + ", nails(" + (nail + 1) + ")", 4, x.nails(nail + 1));
        }
    }

    static void nailsOfAnyCordWithATurn() {
        sentence(2, "STATE: some CORD has a turn about one");
        for (int cord = 0; cord < 5; cord++) {
            AnyNail x = new AnyNail();
            for (int i = 0; i < 5; i++) {
                x.cord(i == 4 ? TOLD : CORD, 0);
                x.turn(i, 0, 0);
            }
            x.turn(cord, 2, 1);
            x.turn(cord, 0, 1);
            due("the turn of cord " + cord, STATE, x.nails(2));
            x.turn(cord, -1, 0);
            due("no turn of cord " + cord, 3, x.nails(2));
        }
        AnyNail x = with(3, CORD, 0, "acC");
        due("a turn of which nothing is LEFT", STATE, x.nails(2));
        due("the last place of the row", STATE, with(3, CORD, 0, "a".repeat(47) + "c").nails(2));
        due("the first place of the row", STATE, with(3, CORD, 0, "c" + "a".repeat(47)).nails(2));
    }

    static void nailsBadIsToldFirst() {
        sentence(2, "REFUSALS, of several the first one told");
        AnyNail x = with(3, CORD, 0, "c");
        due("nails(0), a turn about 2", BAD, x.nails(0));
        due("nails(-1), a turn about 2", BAD, x.nails(-1));
        due("nails(5), a turn about 2", BAD, x.nails(5));
        due("nails(1), a turn about 2", STATE, x.nails(1));
    }

    // ---- promise 3: nail

    static void placeIsZeroTo99() {
        sentence(3, "each in a PLACE (0 .. 99;");
        AnyNail x = new AnyNail();
        due("PLACE 99", 0, x.nail(2, 0, 99));
        due("PLACE 100", BAD, x.nail(2, 0, 100));
        due("PLACE -1", BAD, x.nail(2, 0, -1));
        for (int n : farNumbers()) {
            due("PLACE " + n, BAD, x.nail(2, 0, n));
        }
        due("PLACE 0", 99, x.nail(2, 0, 0));
        due("PLACE 11, more than WEAK may be", 0, x.nail(2, 0, 11));
        due("it is told", 11, x.told(12));
    }

    static void weakIsZeroToTen() {
        sentence(3, "WEAK by 0 .. 10 (1 at first).");
        AnyNail x = new AnyNail();
        due("WEAK 10", 1, x.nail(2, 1, 10));
        due("WEAK 11", BAD, x.nail(2, 1, 11));
        due("WEAK 99", BAD, x.nail(2, 1, 99));
        due("WEAK -1", BAD, x.nail(2, 1, -1));
        for (int n : farNumbers()) {
            due("WEAK " + n, BAD, x.nail(2, 1, n));
        }
        due("WEAK 0", 10, x.nail(2, 1, 0));
        due("it is told", 0, x.told(22));
    }

    static void nailAnswersWhatItWas() {
        sentence(3, "PLACE (what 0), WEAK (1) of a NAIL becomes n: what it was.");
        AnyNail x = new AnyNail();
        due("PLACE 7", 0, x.nail(1, 0, 7));
        due("PLACE 7 again", 7, x.nail(1, 0, 7));
        due("WEAK 7", 1, x.nail(1, 1, 7));
        due("WEAK 8", 7, x.nail(1, 1, 8));
        due("PLACE is as told", 7, x.told(11));
        due("WEAK is as told", 8, x.told(21));
        due("PLACE of another", 0, x.told(10));
        due("WEAK of another", 1, x.told(22));
    }

    static void nailThatIsNotThere() {
        sentence(3, "NONE there is no such NAIL");
        AnyNail x = new AnyNail();
        for (int n = 1; n <= 4; n++) {
            x.nails(n);
            due("the last of " + n, 0, x.nail(n - 1, 0, 0));
            for (int nail = n; nail <= 6; nail++) {
                due("nail " + nail + " of " + n, NONE, x.nail(nail, 0, 0));
                due("nail " + nail + " of " + n + ", WEAK", NONE, x.nail(nail, 1, 0));
            }
        }
        due("nail -1", NONE, x.nail(-1, 0, 0));
        due("nail -1, WEAK", NONE, x.nail(-1, 1, 0));
        for (int nail : farNumbers()) {
            due("nail " + nail, NONE, x.nail(nail, 0, 0));
        }
    }

    static void nailOfAnotherWhat() {
        sentence(3, "NONE there is no such NAIL, CORD, LAW, KIND, what");
        AnyNail x = new AnyNail();
        due("what 2", NONE, x.nail(0, 2, 0));
        due("what -1", NONE, x.nail(0, -1, 0));
        for (int what : farNumbers()) {
            due("what " + what, NONE, x.nail(0, what, 0));
        }
    }

    static void nailNoneIsToldFirst() {
        sentence(3, "what it was. NONE; BAD.");
        AnyNail x = new AnyNail();
        due("no nail, no place", NONE, x.nail(3, 0, 100));
        due("no nail, not so weak", NONE, x.nail(-1, 1, 11));
        due("no what, too much", NONE, x.nail(0, 2, 100));
        due("no what, too little", NONE, x.nail(0, -1, -1));
        due("a nail, no place", BAD, x.nail(0, 0, 100));
    }

    // ---- promise 4: cord

    static void cordsAreFiveAtMost() {
        sentence(4, "CORDS are numbered from 0 on, 5 at most");
        AnyNail x = new AnyNail();
        for (int i = 0; i < 5; i++) {
            due("a cord", i, x.cord(CORD, 0));
            due("so many", i + 1, x.count(0));
        }
        due("a sixth one", FULL, x.cord(CORD, 0));
        due("a sixth one again", FULL, x.cord(TOLD, 9));
        due("five stay", 5, x.count(0));
        due("no cord 5", NONE, x.of(5, 0));
    }

    static void cordsHaveRoomAgainBehindUndo() {
        sentence(4, "A CORD: its number. NONE: kind; BAD: v; FULL.");
        AnyNail x = new AnyNail();
        x.cord(CORD, 0);
        x.image();
        for (int i = 1; i < 5; i++) {
            x.cord(ROUND, 1);
        }
        due("full", FULL, x.cord(CORD, 0));
        x.undo();
        due("the second one again", 1, x.cord(TIED, 2));
        due("its KIND", TIED, x.of(1, 0));
    }

    static void kindsAreZeroToSix() {
        sentence(4, "each of a KIND: 0 CORD; 1 ROUND, 2 ROUGH, 3 HEAVY under CORD; 4 TIED under ROUND; "
            + "5 SLIPPING under ROUGH; 6 TOLD under HEAVY;");
        for (int kind = 0; kind <= 6; kind++) {
            AnyNail x = new AnyNail();
            due("KIND " + kind, 0, x.cord(kind, 0));
            due("it is told", kind, x.of(0, 0));
        }
        AnyNail x = new AnyNail();
        due("KIND 7", NONE, x.cord(7, 0));
        due("KIND -1", NONE, x.cord(-1, 0));
        for (int kind : farNumbers()) {
            due("KIND " + kind, NONE, x.cord(kind, 0));
        }
        due("none came", 0, x.count(0));
    }

    static void numbersAreZeroToNine() {
        sentence(4, "a number v (0 .. 9)");
        AnyNail x = new AnyNail();
        due("v 0", 0, x.cord(CORD, 0));
        due("v 9", 1, x.cord(TOLD, 9));
        due("v -1", BAD, x.cord(CORD, -1));
        due("v 10", BAD, x.cord(CORD, 10));
        for (int v : farNumbers()) {
            due("v " + v, BAD, x.cord(CORD, v));
        }
        due("told 0", 0, x.of(0, 1));
        due("told 9", 9, x.of(1, 1));
        due("two came", 2, x.count(0));
    }

    static void cordRefusalsInTheirOrder() {
        sentence(4, "REFUSALS, of several the first one told: NONE");
        AnyNail x = new AnyNail();
        due("no KIND, no v", NONE, x.cord(7, 10));
        due("no KIND, no v, below", NONE, x.cord(-1, -1));
        for (int i = 0; i < 5; i++) {
            x.cord(CORD, 0);
        }
        due("no KIND, full", NONE, x.cord(7, 0));
        due("no v, full", BAD, x.cord(0, 10));
        due("no KIND, no v, full", NONE, x.cord(7, 10));
        due("full", FULL, x.cord(6, 9));
    }

    static void newCordHasNoTurns() {
        sentence(4, "TURNS: a row (48 at most; none at first)");
        AnyNail x = with(3, CORD, 0, "abc");
        due("the number of the next", 1, x.cord(CORD, 0));
        due("TURNS of the next", 0, x.of(1, 2));
        due("TURNS of the one ahead", 3, x.of(0, 2));
        x.image();
        x.cord(TOLD, 0);
        wind(x, 2, "ab");
        x.set(2, 1, true);
        x.undo();
        due("the third one again", 2, x.cord(TOLD, 0));
        due("TURNS of what comes in its place", 0, x.of(2, 2));
        due("SETS of what comes in its place", 0, x.of(2, 4));
    }

    // ---- promise 5: turn

    static void turnsAre48AtMost() {
        sentence(5, "BAD: way; FULL: 48.");
        AnyNail x = new AnyNail();
        x.cord(CORD, 0);
        x.cord(CORD, 0);
        for (int i = 1; i <= 48; i++) {
            due("turn " + i, i, x.turn(0, i % 3, i % 2));
        }
        due("turn 49", FULL, x.turn(0, 0, 0));
        due("turn 49, which would take out the last one", FULL, x.turn(0, 0, 1));
        due("48 stay", 48, x.of(0, 2));
        due("the last one stays", 0, x.of(0, 147));
        due("another cord is not full", 1, x.turn(1, 0, 0));
    }

    static void turnAnswersHowManyThereAre() {
        sentence(5, "A turn comes behind those of a CORD: how many it has");
        AnyNail x = new AnyNail();
        x.cord(CORD, 0);
        x.cord(CORD, 0);
        due("first", 1, x.turn(1, 2, 1));
        due("second, of which nothing is LEFT", 2, x.turn(1, 2, 0));
        due("third", 3, x.turn(1, 0, 0));
        dueText("the row", "Cca", rowOf(x, 1, 100));
        due("none of another", 0, x.of(0, 2));
    }

    static void nailMinusOneTakesTheTurns() {
        sentence(5, "(nail -1: none then, 0)");
        AnyNail x = with(3, CORD, 0, "");
        addCord(x, CORD, 0, "abc");
        due("of none", 0, x.turn(0, -1, 0));
        due("of three", 0, x.turn(1, -1, 1));
        due("none is there", 0, x.of(1, 2));
        due("no first one", NONE, x.of(1, 100));
        wind(x, 0, "a".repeat(48));
        due("of a full one", 0, x.turn(0, -1, 0));
        due("room again", 1, x.turn(0, 1, 0));
        due("the new one", 2, x.of(0, 100));
        due("no second one", NONE, x.of(0, 101));
    }

    static void nailMinusOneWhateverTheWay() {
        sentence(5, "how many it has (nail -1: none then, 0).");
        for (int way : new int[] {-2, -1, 2, 3, LEAST_INT, MOST_INT}) {
            AnyNail x = with(3, CORD, 0, "ab");
            due("way " + way, 0, x.turn(0, -1, way));
            due("none is there, way " + way, 0, x.of(0, 2));
        }
    }

    static void turnOfNoCordOrNail() {
        sentence(5, "NONE: cord, nail;");
        AnyNail x = with(3, CORD, 0, "");
        for (int cord = 1; cord <= 6; cord++) {
            due("cord " + cord, NONE, x.turn(cord, 0, 0));
        }
        due("cord -1", NONE, x.turn(-1, 0, 0));
        due("cord 1, nail -1", NONE, x.turn(1, -1, 0));
        due("cord -1, nail -1", NONE, x.turn(-1, -1, 0));
        due("nail -2", NONE, x.turn(0, -2, 0));
        for (int far : farNumbers()) {
            due("cord " + far, NONE, x.turn(far, 0, 0));
            due("nail " + far, NONE, x.turn(0, far, 0));
        }
        for (int n = 1; n <= 4; n++) {
            x.nails(n);
            for (int nail = n; nail <= 6; nail++) {
                due("nail " + nail + " of " + n, NONE, x.turn(0, nail, 0));
            }
            due("the last of " + n, 1, x.turn(0, n - 1, 0));
            x.turn(0, -1, 0);
        }
    }

    static void waysAreZeroAndOne() {
        sentence(5, "a way (0 this way, 1 that way) each");
        AnyNail x = with(4, CORD, 0, "");
        due("this way", 1, x.turn(0, 3, 0));
        due("that way", 2, x.turn(0, 3, 1));
        due("told", 6, x.of(0, 100));
        due("told", 7, x.of(0, 101));
        due("way 2", BAD, x.turn(0, 3, 2));
        due("way -1", BAD, x.turn(0, 3, -1));
        for (int way : farNumbers()) {
            due("way " + way, BAD, x.turn(0, 0, way));
        }
        due("two stay", 2, x.of(0, 2));
    }

    static void turnRefusalsInTheirOrder() {
        sentence(5, "REFUSALS, of several the first one told: NONE there is no such NAIL, CORD");
        AnyNail x = with(3, CORD, 0, "a".repeat(48));
        due("no cord, no way", NONE, x.turn(1, 0, 2));
        due("no nail, no way", NONE, x.turn(0, 3, 2));
        due("no nail, full", NONE, x.turn(0, 3, 0));
        due("no way, full", BAD, x.turn(0, 0, 2));
        due("no nail, no way, full", NONE, x.turn(0, -2, -1));
        due("full", FULL, x.turn(0, 2, 1));
    }

    // ---- promise 6: weave

    static void weaveOfOne() {
        sentence(6, "by numbers: those of the first: it, this way;");
        AnyNail x = with(4, CORD, 0, "bb");
        for (int nail = 0; nail < 4; nail++) {
            due("set " + (1 << nail), 1, x.weave(0, 1 << nail));
            due("it, this way", 2 * nail, x.of(0, 100));
            due("no more", NONE, x.of(0, 101));
        }
    }

    static void weaveOfMore() {
        sentence(6, "of each next one, the row so far being W: W, it this way, W from its end, each the other way, "
            + "it that way. How many there are.");
        AnyNail x = with(4, CORD, 0, "");
        due("of two", 4, x.weave(0, 3));
        dueText("of two", "abAB", rowOf(x, 0, 100));
        due("of two that are not neighbours", 4, x.weave(0, 9));
        dueText("of two that are not neighbours", "adAD", rowOf(x, 0, 100));
        due("of three", 10, x.weave(0, 14));
        dueText("of three", "bcBCdcbCBD", rowOf(x, 0, 100));
        due("of four", 22, x.weave(0, 15));
        dueText("of four", "abABcbaBACdcabABCbaBAD", rowOf(x, 0, 100));
    }

    static void weaveOfASetThatIsNotThere() {
        sentence(6, "a set of NAILS (bits, one at least)");
        AnyNail x = with(3, CORD, 0, "");
        due("set 0", BAD, x.weave(0, 0));
        due("set -1", BAD, x.weave(0, -1));
        for (int n = 1; n <= 4; n++) {
            x.nails(n);
            for (int set = 1 << n; set <= 33; set++) {
                due("set " + set + " of " + n + " nails", BAD, x.weave(0, set));
            }
            due("all of " + n, n == 1 ? 1 : n == 2 ? 4 : n == 3 ? 10 : 22, x.weave(0, (1 << n) - 1));
            x.turn(0, -1, 0);
        }
        for (int set : farNumbers()) {
            due("set " + set, BAD, x.weave(0, set));
        }
    }

    static void weaveTakesTheTurnsAhead() {
        sentence(6, "TURNS of a CORD become those WOVEN for a set of NAILS");
        AnyNail x = with(3, CORD, 0, "c".repeat(48));
        addCord(x, CORD, 0, "ca");
        due("of a full one", 4, x.weave(0, 3));
        dueText("of a full one", "abAB", rowOf(x, 0, 100));
        due("again", 1, x.weave(0, 4));
        dueText("again", "c", rowOf(x, 0, 100));
        dueText("another cord", "ca", rowOf(x, 1, 100));
    }

    static void weaveRefusalsInTheirOrder() {
        sentence(6, "How many there are. NONE; BAD: set.");
        AnyNail x = with(3, CORD, 0, "");
        for (int cord = 1; cord <= 6; cord++) {
            due("cord " + cord, NONE, x.weave(cord, 1));
        }
        due("cord -1", NONE, x.weave(-1, 1));
        for (int cord : farNumbers()) {
            due("cord " + cord, NONE, x.weave(cord, 1));
        }
        due("no cord, no set", NONE, x.weave(1, 0));
        due("no cord, a set too great", NONE, x.weave(-1, 8));
        due("a cord, no set", BAD, x.weave(0, 8));
    }

    // ---- promise 7: of

    static void ofNoCord() {
        sentence(7, "200 and k of what is LEFT (2 times the NAIL and the way). NONE.");
        AnyNail x = with(3, CORD, 0, "a");
        for (int what : new int[] {0, 1, 2, 3, 4, 5, 6, 7, 100, 200}) {
            for (int cord = 1; cord <= 6; cord++) {
                due("of(" + cord + ", " + what + ")", NONE, x.of(cord, what));
            }
            due("of(-1, " + what + ")", NONE, x.of(-1, what));
        }
        for (int cord : farNumbers()) {
            due("cord " + cord, NONE, x.of(cord, 0));
        }
    }

    static void ofNoSuchWhat() {
        sentence(7, "6 INCHES, 100 and k its k-th turn");
        AnyNail x = with(3, CORD, 0, "a");
        due("what 6 is the last of the first ones", 2, x.of(0, 6));
        for (int what : new int[] {-1, -2, 7, 8, 50, 99, -100, -200}) {
            due("what " + what, NONE, x.of(0, what));
        }
        for (int what : farNumbers()) {
            due("what " + what, NONE, x.of(0, what));
        }
    }

    static void ofKthTurn() {
        sentence(7, "100 and k its k-th turn");
        AnyNail x = with(4, CORD, 0, "dAb" + "cC".repeat(22) + "D");
        due("first", 6, x.of(0, 100));
        due("second", 1, x.of(0, 101));
        due("last, the 48th", 7, x.of(0, 147));
        noTurnFrom(x, 148);
        wind(x, 0, "dAb");
        due("last of three", 2, x.of(0, 102));
        noTurnFrom(x, 103);
        wind(x, 0, "");
        noTurnFrom(x, 100);
    }

    /** To where what is LEFT is told, or, from there on, a hundred places. */
    private static void noTurnFrom(AnyNail x, int from) {
        int turns = x.of(0, 2);
        for (int what = from; what < (from < 200 ? 200 : 300); what++) {
            due("of " + turns + " turns, what " + what, NONE, x.of(0, what));
        }
    }

    static void ofKthOfWhatIsLeft() {
        sentence(7, "200 and k of what is LEFT (2 times the NAIL and the way)");
        AnyNail x = with(4, CORD, 0, "dAaCcbD");
        due("first", 6, x.of(0, 200));
        due("second", 2, x.of(0, 201));
        due("last", 7, x.of(0, 202));
        noTurnFrom(x, 203);
        due("there is such a turn", 4, x.of(0, 104));
        x = with(4, CORD, 0, "aA");
        noTurnFrom(x, 200);
        x = with(4, CORD, 0, "");
        noTurnFrom(x, 200);
        x = with(4, CORD, 0, "Dc".repeat(24));
        due("the 48th", 4, x.of(0, 247));
        noTurnFrom(x, 248);
        wind(x, 0, "Dc");
        noTurnFrom(x, 202);
    }

    static void leftIsTakenOutAsLongAsThereAreTwo() {
        sentence(7, "as long as there are two turns beside one another about one NAIL, one this way, one that way, "
            + "these two are taken out.");
        left("", "");
        left("a", "a");
        left("aA", "");
        left("Aa", "");
        left("aa", "aa");
        left("AA", "AA");
        left("aB", "aB");
        left("Ab", "Ab");
        left("aAa", "a");
        left("abBA", "");
        left("cabBAd", "cd");
        left("abAB", "abAB");
        left("aBbC", "aC");
        left("a".repeat(24) + "A".repeat(24), "");
        left("dD".repeat(24), "");
        left("a" + "bB".repeat(23) + "a", "aa");
        left("ab".repeat(24), "ab".repeat(24));
    }

    private static void left(String row, String want) {
        AnyNail x = with(4, CORD, 0, row);
        due("how many are LEFT of " + row, want.length(), x.of(0, 3));
        dueText("LEFT of " + row, want, rowOf(x, 0, 200));
        due("TURNS stay", row.length(), x.of(0, 2));
    }

    static void leftIsByNoNailPulled() {
        sentence(7, "3 how many are LEFT (no NAIL pulled)");
        for (int kind = 0; kind <= 6; kind++) {
            AnyNail x = with(3, kind, 0, "aab");
            due("LEFT of KIND " + kind, 3, x.of(0, 3));
            dueText("LEFT of KIND " + kind, "aab", rowOf(x, 0, 200));
        }
    }

    static void setsAreOfNailsThatAreThere() {
        sentence(7, "SETS of a CORD: the sets of NAILS that are there by which it FALLS, as bits.");
        due("one nail, by all sets", 0b11, with(1, CORD, 0, "").of(0, 4));
        due("one nail, by all nails", 0b10, with(1, CORD, 0, "a").of(0, 4));
        due("two nails, by all sets", 0b1111, with(2, CORD, 0, "").of(0, 4));
        due("two nails, by all nails", 0b1000, with(2, CORD, 0, "ab").of(0, 4));
        due("three nails, by all sets", 0xFF, with(3, CORD, 0, "").of(0, 4));
        due("three nails, by all nails", 0x80, with(3, CORD, 0, "abc").of(0, 4));
        due("four nails, by all sets", 0xFFFF, with(4, CORD, 0, "").of(0, 4));
        due("four nails, by all nails", 0x8000, with(4, CORD, 0, "abcd").of(0, 4));
        due("by no set", 0, with(4, TOLD, 0, "").of(0, 4));
    }

    static void leastHaveNoPart() {
        sentence(7, "LEAST of a CORD: of its SETS those of which no other one is a part, as bits.");
        due("of no SETS", 0, with(4, TOLD, 0, "").of(0, 5));
        due("the empty set is a part of all", 1, with(4, CORD, 0, "").of(0, 5));
        due("all nails alone", 0x8000, with(4, CORD, 0, "abcd").of(0, 5));
        due("each nail", 0b10110, with(3, CORD, 0, "abABcbaBAC").of(0, 5));
        AnyNail x = with(3, TOLD, 0, "");
        x.set(0, 1, true);
        x.set(0, 3, true);
        x.set(0, 6, true);
        due("a part, and one that is none", 1 << 1 | 1 << 6, x.of(0, 5));
        x.set(0, 1, false);
        due("two that share a nail", 1 << 3 | 1 << 6, x.of(0, 5));
        x.set(0, 7, true);
        due("one of which both are a part", 1 << 3 | 1 << 6, x.of(0, 5));
    }

    static void inchesBetweenPlaces() {
        sentence(7, "INCHES of a CORD: of TURNS how far the PLACES of each two that are beside one another are apart, "
            + "and 2 for each turn, together.");
        AnyNail x = with(4, CORD, 0, "");
        x.nail(1, 0, 99);
        x.nail(2, 0, 40);
        due("of none", 0, x.of(0, 6));
        inches(x, "a", 2);
        inches(x, "b", 2);
        inches(x, "aa", 4);
        inches(x, "ab", 103);
        inches(x, "ba", 103);
        inches(x, "bB", 4);
        inches(x, "acb", 40 + 59 + 6);
        inches(x, "abBA", 99 + 99 + 8);
        inches(x, "ab".repeat(24), 47 * 99 + 96);
    }

    private static void inches(AnyNail x, String row, int want) {
        wind(x, 0, row);
        due("INCHES of " + row, want, x.of(0, 6));
    }

    // ---- promise 8: set

    static void setsToldAreZeroTo15() {
        sentence(8, "Whether a TOLD one FALLS by a set (0 .. 15): whether it did.");
        for (int n = 1; n <= 4; n++) {
            AnyNail x = with(n, TOLD, 0, "");
            for (int set = 0; set <= 15; set++) {
                due("set " + set + " of " + n + " nails", 0, x.set(0, set, true));
            }
            due("set 16", BAD, x.set(0, 16, true));
            due("set -1", BAD, x.set(0, -1, true));
            for (int set : farNumbers()) {
                due("set " + set, BAD, x.set(0, set, false));
            }
            for (int set = 0; set <= 15; set++) {
                due("it did by " + set, 1, x.set(0, set, false));
                due("it did not then by " + set, 0, x.set(0, set, false));
            }
        }
    }

    static void setsToldAreNoneAtFirst() {
        sentence(8, "a set being told by the sum of 2 to the power of each NAIL's number; none at first");
        AnyNail x = with(4, TOLD, 9, "");
        due("at first", 0, x.of(0, 4));
        for (int set = 0; set <= 15; set++) {
            x.set(0, set, true);
            due("by " + set + " alone", 1 << set, x.of(0, 4));
            due("FALLS by it", 1, x.falls(0, set));
            x.set(0, set, false);
        }
    }

    static void nailsThatAreNotThereDoNotCount() {
        sentence(8, "NAILS that are not there do not count.");
        AnyNail x = with(1, TOLD, 0, "");
        for (int set = 2; set <= 15; set++) {
            x.set(0, set, true);
        }
        due("SETS with one nail", 0, x.of(0, 4));
        x.set(0, 1, true);
        due("by nail 0, with one nail", 0b10, x.of(0, 4));
        x.nails(2);
        due("SETS with two nails", 0b1110, x.of(0, 4));
        x.nails(4);
        due("SETS with four nails", 0xFFFE, x.of(0, 4));
    }

    static void setOfAnotherKind() {
        sentence(8, "STATE: another KIND.");
        for (int kind = 0; kind <= 5; kind++) {
            AnyNail x = with(3, kind, 0, "ab");
            int before = x.of(0, 4);
            due("KIND " + kind, STATE, x.set(0, 0, true));
            due("KIND " + kind + ", not", STATE, x.set(0, 15, false));
            due("SETS stay", before, x.of(0, 4));
        }
        due("KIND 6", 0, with(3, TOLD, 0, "").set(0, 0, true));
    }

    static void setRefusalsInTheirOrder() {
        sentence(8, "whether it did. NONE; BAD; STATE: another KIND.");
        AnyNail x = with(3, CORD, 0, "");
        for (int cord = 1; cord <= 6; cord++) {
            due("cord " + cord, NONE, x.set(cord, 0, true));
        }
        due("cord -1", NONE, x.set(-1, 0, true));
        for (int cord : farNumbers()) {
            due("cord " + cord, NONE, x.set(cord, 0, true));
        }
        due("no cord, no set", NONE, x.set(1, 16, true));
        due("no set, another KIND", BAD, x.set(0, 16, true));
        due("no set below, another KIND", BAD, x.set(0, -1, true));
        due("another KIND", STATE, x.set(0, 15, true));
    }
}
