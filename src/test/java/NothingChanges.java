/**
 * "They change nothing": each refused call of each promise is made on one of two objects that were made alike,
 * and then both are read through and through. So with what is only asked.
 */
public final class NothingChanges extends Due {
    private static final String REFUSED = "They change nothing.";
    private static final String ASKED = "All that follows is asked, and changes nothing.";

    private interface Call {
        long on(AnyNail x);
    }

    private interface Maker {
        AnyNail make();
    }

    public static void main(String[] args) {
        runAll(NothingChanges.class);
    }

    // ---- objects

    /** Four nails, four cords, two laws, some seen, a tape, an image of another time. */
    private static AnyNail some() {
        AnyNail x = withoutImage();
        x.image();
        x.nail(1, 0, 71);
        x.nail(3, 1, 4);
        addCord(x, SLIPPING, 4, "abDd");
        x.turn(0, 2, 1);
        x.set(2, 9, true);
        feedLaw(x, "n>2");
        feed(x, "d=1&n<");
        x.see(8, false);
        x.act(1, 2, 5);
        return x;
    }

    private static AnyNail withoutImage() {
        AnyNail x = with(4, CORD, 0, "abAB");
        addCord(x, TIED, 2, "cd");
        addCord(x, TOLD, 1, "c");
        x.set(2, 3, true);
        x.set(2, 15, true);
        x.nail(0, 0, 20);
        feedLaw(x, "a=1|b=1");
        feed(x, "a=");
        x.see(3, true);
        x.act(2, 1, 5);
        return x;
    }

    /** Three nails; as many cords, turns, laws, signs and seen as there may be. */
    private static AnyNail full() {
        AnyNail x = new AnyNail();
        x.image();
        for (int kind = 2; kind <= 6; kind++) {
            addCord(x, kind, kind, "ac");
        }
        wind(x, 0, "abcABC".repeat(8));
        x.set(4, 6, true);
        for (int i = 0; i < 5; i++) {
            feedLaw(x, "n>" + i);
        }
        feed(x, "a".repeat(100));
        for (int i = 0; i < 8; i++) {
            x.see(i, i > 4);
        }
        x.act(2, 2, 8);
        return x;
    }

    private static void feed(AnyNail x, String text) {
        for (char c : text.toCharArray()) {
            x.feed(c);
        }
    }

    // ---- reading them

    private static String all(AnyNail x) {
        StringBuilder text = new StringBuilder(open(x));
        text.append(" the tape:").append(x.feed('1')).append(' ').append(x.law()).append(' ').append(x.sets(2));
        text.append(" four nails:").append(x.nails(4));
        for (int what = 10; what <= 23; what++) {
            text.append(' ').append(x.told(what));
        }
        for (int i = 0; i < 5; i++) {
            text.append(' ').append(x.of(i, 4)).append(' ').append(x.sets(i));
        }
        text.append(" fits:").append(x.fits());
        return text.append(" undone:").append(x.undo()).append(open(x)).toString();
    }

    private static String open(AnyNail x) {
        StringBuilder text = new StringBuilder(" nails:").append(x.told(0));
        for (int i = 0; i < 4; i++) {
            text.append(' ').append(x.told(10 + i)).append(' ').append(x.told(20 + i));
        }
        text.append(" counts:");
        for (int what = 0; what <= 4; what++) {
            text.append(' ').append(x.count(what));
        }
        text.append(" trace:");
        for (int i = 0; i <= 7; i++) {
            text.append(' ').append(x.trace(i));
        }
        for (int i = 0; i < x.count(0); i++) {
            text.append(" cord:").append(rowOf(x, i, 100));
            for (int what = 0; what <= 6; what++) {
                text.append(' ').append(x.of(i, what));
            }
        }
        text.append(" laws:");
        for (int i = 0; i < x.count(1); i++) {
            text.append(' ').append(x.sets(i));
        }
        return text.append(" fits:").append(x.fits()).append(" try:").append(x.tries()).toString();
    }

    // ---- refused calls

    private static void refused(Maker maker, String name, long want, Call call) {
        AnyNail x = maker.make();
        due(name, want, call.on(x));
        due(name + " again", want, call.on(x));
        dueText(name + ", and then all", all(maker.make()), all(x));
    }

    static void nailsRefused() {
        sentence(2, REFUSED);
        refused(NothingChanges::some, "nails(0)", BAD, x -> x.nails(0));
        refused(NothingChanges::some, "nails(5)", BAD, x -> x.nails(5));
        refused(NothingChanges::some, "nails(3)", STATE, x -> x.nails(3));
        refused(NothingChanges::some, "nails(1)", STATE, x -> x.nails(1));
        refused(NothingChanges::full, "nails(2)", STATE, x -> x.nails(2));
    }

    static void nailRefused() {
        sentence(3, REFUSED);
        refused(NothingChanges::some, "nail(4, 0, 1)", NONE, x -> x.nail(4, 0, 1));
        refused(NothingChanges::some, "nail(-1, 1, 1)", NONE, x -> x.nail(-1, 1, 1));
        refused(NothingChanges::some, "nail(1, 2, 1)", NONE, x -> x.nail(1, 2, 1));
        refused(NothingChanges::some, "nail(1, 0, 100)", BAD, x -> x.nail(1, 0, 100));
        refused(NothingChanges::some, "nail(1, 0, -1)", BAD, x -> x.nail(1, 0, -1));
        refused(NothingChanges::some, "nail(1, 1, 11)", BAD, x -> x.nail(1, 1, 11));
        refused(NothingChanges::some, "nail(1, 1, -1)", BAD, x -> x.nail(1, 1, -1));
        refused(NothingChanges::full, "nail(3, 0, 1)", NONE, x -> x.nail(3, 0, 1));
        refused(NothingChanges::full, "nail(3, 1, 5)", NONE, x -> x.nail(3, 1, 5));
    }

    static void cordRefused() {
        sentence(4, REFUSED);
        refused(NothingChanges::some, "cord(7, 0)", NONE, x -> x.cord(7, 0));
        refused(NothingChanges::some, "cord(-1, 0)", NONE, x -> x.cord(-1, 0));
        refused(NothingChanges::some, "cord(0, 10)", BAD, x -> x.cord(0, 10));
        refused(NothingChanges::some, "cord(0, -1)", BAD, x -> x.cord(0, -1));
        refused(NothingChanges::full, "cord(0, 0)", FULL, x -> x.cord(0, 0));
    }

    static void turnRefused() {
        sentence(5, REFUSED);
        refused(NothingChanges::some, "turn(4, 0, 0)", NONE, x -> x.turn(4, 0, 0));
        refused(NothingChanges::some, "turn(4, -1, 0)", NONE, x -> x.turn(4, -1, 0));
        refused(NothingChanges::some, "turn(-1, -1, 0)", NONE, x -> x.turn(-1, -1, 0));
        refused(NothingChanges::some, "turn(0, 4, 0)", NONE, x -> x.turn(0, 4, 0));
        refused(NothingChanges::some, "turn(0, -2, 0)", NONE, x -> x.turn(0, -2, 0));
        refused(NothingChanges::some, "turn(0, 0, 2)", BAD, x -> x.turn(0, 0, 2));
        refused(NothingChanges::some, "turn(0, 0, -1)", BAD, x -> x.turn(0, 0, -1));
        refused(NothingChanges::full, "turn(0, 0, 0)", FULL, x -> x.turn(0, 0, 0));
        refused(NothingChanges::full, "turn(0, 2, 0)", FULL, x -> x.turn(0, 2, 0));
    }

    static void weaveRefused() {
        sentence(6, REFUSED);
        refused(NothingChanges::some, "weave(4, 1)", NONE, x -> x.weave(4, 1));
        refused(NothingChanges::some, "weave(-1, 1)", NONE, x -> x.weave(-1, 1));
        refused(NothingChanges::some, "weave(0, 0)", BAD, x -> x.weave(0, 0));
        refused(NothingChanges::some, "weave(0, 16)", BAD, x -> x.weave(0, 16));
        refused(NothingChanges::full, "weave(0, 8)", BAD, x -> x.weave(0, 8));
        refused(NothingChanges::full, "weave(0, -1)", BAD, x -> x.weave(0, -1));
    }

    static void ofRefused() {
        sentence(7, REFUSED);
        refused(NothingChanges::some, "of(4, 0)", NONE, x -> x.of(4, 0));
        refused(NothingChanges::some, "of(0, 7)", NONE, x -> x.of(0, 7));
        refused(NothingChanges::some, "of(0, 105)", NONE, x -> x.of(0, 105));
        refused(NothingChanges::full, "of(0, 148)", NONE, x -> x.of(0, 148));
        refused(NothingChanges::full, "of(0, 248)", NONE, x -> x.of(0, 248));
    }

    static void setRefused() {
        sentence(8, REFUSED);
        refused(NothingChanges::some, "set(4, 0, true)", NONE, x -> x.set(4, 0, true));
        refused(NothingChanges::some, "set(2, 16, true)", BAD, x -> x.set(2, 16, true));
        refused(NothingChanges::some, "set(2, 35, false)", BAD, x -> x.set(2, 35, false));
        refused(NothingChanges::some, "set(2, -1, true)", BAD, x -> x.set(2, -1, true));
        refused(NothingChanges::some, "set(0, 0, true)", STATE, x -> x.set(0, 0, true));
        refused(NothingChanges::full, "set(3, 6, false)", STATE, x -> x.set(3, 6, false));
    }

    static void feedRefused() {
        sentence(9, REFUSED);
        refused(NothingChanges::some, "feed(128)", BAD, x -> x.feed(128));
        refused(NothingChanges::some, "feed(-1)", BAD, x -> x.feed(-1));
        refused(NothingChanges::full, "feed(97)", FULL, x -> x.feed(97));
        refused(NothingChanges::full, "feed(128)", BAD, x -> x.feed(128));
    }

    static void lawRefused() {
        sentence(10, REFUSED);
        refused(NothingChanges::full, "law()", FULL, x -> x.law());
    }

    static void setsRefused() {
        sentence(11, REFUSED);
        refused(NothingChanges::some, "sets(2)", NONE, x -> x.sets(2));
        refused(NothingChanges::full, "sets(5)", NONE, x -> x.sets(5));
        refused(NothingChanges::full, "sets(-1)", NONE, x -> x.sets(-1));
    }

    static void fallsRefused() {
        sentence(12, REFUSED);
        refused(NothingChanges::some, "falls(4, 0)", NONE, x -> x.falls(4, 0));
        refused(NothingChanges::some, "falls(0, 16)", BAD, x -> x.falls(0, 16));
        refused(NothingChanges::full, "falls(4, 8)", BAD, x -> x.falls(4, 8));
    }

    static void keepsRefused() {
        sentence(13, REFUSED);
        refused(NothingChanges::some, "keeps(4, 0)", NONE, x -> x.keeps(4, 0));
        refused(NothingChanges::full, "keeps(0, 5)", NONE, x -> x.keeps(0, 5));
    }

    static void shortestRefused() {
        sentence(14, REFUSED);
        refused(NothingChanges::some, "shortest(2, 1, 1)", NONE, x -> x.shortest(2, 1, 1));
        refused(NothingChanges::some, "shortest(0, 1, 5)", NONE, x -> x.shortest(0, 1, 5));
        refused(NothingChanges::some, "shortest(0, 6, 0)", BAD, x -> x.shortest(0, 6, 0));
    }

    static void mendRefused() {
        sentence(15, REFUSED);
        refused(NothingChanges::some, "mend(4, 0)", NONE, x -> x.mend(4, 0));
        refused(NothingChanges::full, "mend(0, 5)", NONE, x -> x.mend(0, 5));
    }

    static void alikeRefused() {
        sentence(16, REFUSED);
        refused(NothingChanges::some, "alike(4, 0, 1)", NONE, x -> x.alike(4, 0, 1));
        refused(NothingChanges::some, "alike(0, 4, 1)", NONE, x -> x.alike(0, 4, 1));
        refused(NothingChanges::full, "alike(0, 1, 3)", NONE, x -> x.alike(0, 1, 3));
    }

    static void gameRefused() {
        sentence(17, REFUSED);
        refused(NothingChanges::some, "game(4, 0)", NONE, x -> x.game(4, 0));
        refused(NothingChanges::full, "game(0, 2)", NONE, x -> x.game(0, 2));
    }

    static void seeRefused() {
        sentence(18, REFUSED);
        refused(NothingChanges::some, "see(16, true)", BAD, x -> x.see(16, true));
        refused(NothingChanges::some, "see(-2, false)", BAD, x -> x.see(-2, false));
        refused(NothingChanges::full, "see(8, true)", BAD, x -> x.see(8, true));
        refused(NothingChanges::full, "see(0, true)", FULL, x -> x.see(0, true));
        refused(NothingChanges::full, "see(7, false)", FULL, x -> x.see(7, false));
    }

    static void triesOfNone() {
        sentence(20, REFUSED);
        refused(NothingChanges::full, "tries()", NOTHING, x -> x.tries());
    }

    static void oddsRefused() {
        sentence(21, REFUSED);
        refused(NothingChanges::some, "odds(4, 0)", NO, x -> x.odds(4, 0));
        refused(NothingChanges::full, "odds(0, 2)", NO, x -> x.odds(0, 2));
    }

    static void hangsRefused() {
        sentence(22, REFUSED);
        refused(NothingChanges::some, "hangs(4, 1, 0)", NO, x -> x.hangs(4, 1, 0));
        refused(NothingChanges::some, "hangs(0, 4, 0)", NO, x -> x.hangs(0, 4, 0));
        refused(NothingChanges::full, "hangs(0, 1, 2)", NO, x -> x.hangs(0, 1, 2));
    }

    static void toldRefused() {
        sentence(23, REFUSED);
        refused(NothingChanges::some, "told(14)", NONE, x -> x.told(14));
        refused(NothingChanges::full, "told(23)", NONE, x -> x.told(23));
    }

    static void traceRefused() {
        sentence(25, REFUSED);
        refused(NothingChanges::some, "trace(7)", NONE, x -> x.trace(7));
        refused(NothingChanges::full, "trace(-1)", NONE, x -> x.trace(-1));
    }

    static void asRefused() {
        sentence(26, REFUSED);
        refused(NothingChanges::some, "as(4, 0)", NONE, x -> x.as(4, 0));
        refused(NothingChanges::some, "as(0, 7)", NONE, x -> x.as(0, 7));
        refused(NothingChanges::full, "as(0, 6)", OTHER_KIND, x -> x.as(0, 6));
    }

    static void undoRefused() {
        sentence(28, REFUSED);
        refused(NothingChanges::withoutImage, "undo()", STATE, x -> x.undo());
    }

    static void countRefused() {
        sentence(29, REFUSED);
        refused(NothingChanges::some, "count(5)", NONE, x -> x.count(5));
        refused(NothingChanges::full, "count(-1)", NONE, x -> x.count(-1));
    }

    /** No such cord or act takes the trace, and nothing else. */
    static void actOfNoCordTakesTheTraceAlone() {
        sentence(24, "0, and no TRACE then: no such CORD, act.");
        for (int kind = 0; kind < 2; kind++) {
            Maker maker = kind == 0 ? NothingChanges::some : NothingChanges::full;
            AnyNail x = maker.make();
            AnyNail y = maker.make();
            due("act(5, 0, 1)", 0, x.act(5, 0, 1));
            due("act(0, 3, 1)", 0, y.act(0, 3, 1));
            due("no body", NONE, x.trace(0));
            String both = all(x);
            dueText("all, by no act and by no cord", both, all(y));
            AnyNail z = maker.make();
            z.act(0, 2, 1);
            x = maker.make();
            x.act(0, 2, 1);
            z.act(0, 3, 1);
            x.act(0, 0, 2);
            due("a body", 1, x.trace(0));
            dueText("all but the trace", withoutTrace(all(maker.make())), withoutTrace(all(z)));
            dueText("all but the trace of an act that is", withoutTrace(all(maker.make())), withoutTrace(all(x)));
        }
    }

    /** The text without what it tells of the trace, and without the count of bodies that stands ahead of that. */
    private static String withoutTrace(String text) {
        return text.replaceAll(" -?\\d+ trace:[ \\d-]*", "");
    }

    // ---- what is asked

    private static void asked(String name, Call call) {
        for (int kind = 0; kind < 2; kind++) {
            Maker maker = kind == 0 ? NothingChanges::some : NothingChanges::full;
            AnyNail x = maker.make();
            long first = call.on(x);
            due(name + " again", first, call.on(x));
            dueText(name + ", and then all", all(maker.make()), all(x));
        }
    }

    static void ofIsAsked() {
        sentence(7, ASKED);
        for (int what = 0; what <= 6; what++) {
            int asked = what;
            asked("of(0, " + what + ")", x -> x.of(0, asked));
            asked("of(2, " + what + ")", x -> x.of(2, asked));
        }
        asked("of(0, 101)", x -> x.of(0, 101));
        asked("of(0, 201)", x -> x.of(0, 201));
    }

    static void setsAreAsked() {
        sentence(11, ASKED);
        asked("sets(0)", x -> x.sets(0));
        asked("sets(1)", x -> x.sets(1));
    }

    static void fallsIsAsked() {
        sentence(12, ASKED);
        for (int set = 0; set < 8; set++) {
            int pulled = set;
            asked("falls(0, " + set + ")", x -> x.falls(0, pulled));
            asked("falls(3, " + set + ")", x -> x.falls(3, pulled));
        }
    }

    static void keepsIsAsked() {
        sentence(13, ASKED);
        asked("keeps(0, 0)", x -> x.keeps(0, 0));
        asked("keeps(2, 1)", x -> x.keeps(2, 1));
    }

    static void shortestIsAsked() {
        sentence(14, ASKED);
        asked("shortest(0, 5, -1)", x -> x.shortest(0, 5, -1));
        asked("shortest(1, 5, 0)", x -> x.shortest(1, 5, 0));
    }

    static void mendIsAsked() {
        sentence(15, ASKED);
        for (int cord = 0; cord < 4; cord++) {
            int one = cord;
            asked("mend(" + cord + ", 0)", x -> x.mend(one, 0));
            asked("mend(" + cord + ", 1)", x -> x.mend(one, 1));
        }
    }

    static void alikeIsAsked() {
        sentence(16, ASKED);
        for (int what = 0; what <= 2; what++) {
            int asked = what;
            asked("alike(0, 1, " + what + ")", x -> x.alike(0, 1, asked));
            asked("alike(3, 3, " + what + ")", x -> x.alike(3, 3, asked));
        }
    }

    static void gameIsAsked() {
        sentence(17, ASKED);
        for (int cord = 0; cord < 4; cord++) {
            int one = cord;
            asked("game(" + cord + ", 0)", x -> x.game(one, 0));
            asked("game(" + cord + ", 1)", x -> x.game(one, 1));
        }
    }

    static void fitsAreAsked() {
        sentence(19, ASKED);
        asked("fits()", x -> x.fits());
    }

    static void tryIsAsked() {
        sentence(20, ASKED);
        asked("tries()", x -> x.tries());
    }

    static void oddsAreAsked() {
        sentence(21, ASKED);
        asked("odds(0, 0)", x -> x.odds(0, 0));
        asked("odds(3, 1)", x -> x.odds(3, 1));
    }

    static void hangsIsAsked() {
        sentence(22, ASKED);
        asked("hangs(0, 3, 0)", x -> x.hangs(0, 3, 0));
        asked("hangs(3, 2, 1)", x -> x.hangs(3, 2, 1));
    }

    static void toldIsAsked() {
        sentence(23, ASKED);
        asked("told(0)", x -> x.told(0));
        asked("told(10)", x -> x.told(10));
        asked("told(22)", x -> x.told(22));
    }

    static void kindIsAsked() {
        sentence(26, ASKED);
        asked("as(0, 0)", x -> x.as(0, 0));
        asked("as(3, 2)", x -> x.as(3, 2));
    }

    static void countsAreAsked() {
        sentence(29, ASKED);
        for (int what = 0; what <= 4; what++) {
            int asked = what;
            asked("count(" + what + ")", x -> x.count(asked));
        }
    }
}
