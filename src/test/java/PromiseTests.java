/** For each promise of the document: ordinary inputs, the edges that it names, and wrong inputs. */
public final class PromiseTests extends Due {
    public static void main(String[] args) {
        newObject();
        nails();
        nail();
        cord();
        turn();
        weave();
        of();
        kindsOfCords();
        set();
        feed();
        law();
        faults();
        sets();
        falls();
        keeps();
        shortest();
        mend();
        alike();
        game();
        see();
        fits();
        tries();
        odds();
        hangs();
        told();
        act();
        trace();
        as();
        image();
        undo();
        count();
        refusedCallsChangeNothing();
        end(PromiseTests.class, "");
    }

    // ---- promises

    private static void newObject() {
        AnyNail x = new AnyNail();
        due("new: told(0)", 3, x.told(0));
        for (int i = 0; i < 3; i++) {
            due("new: place", 0, x.told(10 + i));
            due("new: weak", 1, x.told(20 + i));
        }
        for (int what = 0; what <= 4; what++) {
            due("new: count " + what, 0, x.count(what));
        }
        due("new: undo", STATE, x.undo());
        due("new: trace", NONE, x.trace(0));
        due("new: sets", NONE, x.sets(0));
        due("new: of", NONE, x.of(0, 0));
        due("NONE", -1, AnyNail.NONE);
        due("BAD", -2, AnyNail.BAD);
        due("STATE", -3, AnyNail.STATE);
        due("FULL", -4, AnyNail.FULL);
        due("NO", Long.MIN_VALUE, AnyNail.NO);
    }

    private static void nails() {
        AnyNail x = new AnyNail();
        due("nails(4)", 3, x.nails(4));
        due("nails(1)", 4, x.nails(1));
        due("nails(4) again", 1, x.nails(4));
        for (int n : new int[] {0, 5, -1, LEAST_INT, MOST_INT}) {
            due("nails " + n, BAD, x.nails(n));
        }
        x.nail(3, 0, 77);
        x.nail(3, 1, 7);
        x.nails(2);
        due("place of a nail that is not there", NONE, x.told(13));
        x.nails(4);
        due("place kept", 77, x.told(13));
        due("weak kept", 7, x.told(23));
        x.cord(CORD, 0);
        x.turn(0, 2, 1);
        due("a turn about 2, nails(2)", STATE, x.nails(2));
        due("still 4", 4, x.told(0));
        due("BAD first", BAD, x.nails(0));
        due("a turn about 2, nails(3)", 4, x.nails(3));
        x.turn(0, 2, 0);
        due("nothing left, yet turns", STATE, x.nails(1));
        x.turn(0, -1, 0);
        due("no turns", 3, x.nails(1));
        x.cord(CORD, 0);
        x.nails(4);
        x.turn(1, 3, 0);
        due("a later cord has the turn", STATE, x.nails(3));
    }

    private static void nail() {
        AnyNail x = new AnyNail();
        due("place 99", 0, x.nail(0, 0, 99));
        due("place 0", 99, x.nail(0, 0, 0));
        due("weak 10", 1, x.nail(2, 1, 10));
        due("weak 0", 10, x.nail(2, 1, 0));
        due("weak 3", 0, x.nail(2, 1, 3));
        due("told", 3, x.told(22));
        due("place 100", BAD, x.nail(0, 0, 100));
        due("place -1", BAD, x.nail(0, 0, -1));
        due("weak 11", BAD, x.nail(0, 1, 11));
        due("weak -1", BAD, x.nail(0, 1, -1));
        due("nail 3 of 3", NONE, x.nail(3, 0, 0));
        due("nail -1", NONE, x.nail(-1, 0, 0));
        due("what 2", NONE, x.nail(0, 2, 0));
        due("what -1", NONE, x.nail(0, -1, 0));
        due("NONE first", NONE, x.nail(0, 2, 1000));
        due("NONE first, nail", NONE, x.nail(MOST_INT, 0, 1000));
        due("unchanged", 1, x.told(20));
    }

    private static void cord() {
        AnyNail x = new AnyNail();
        due("cord 0", 0, x.cord(CORD, 0));
        due("kind 7", NONE, x.cord(7, 0));
        due("kind -1", NONE, x.cord(-1, 10));
        due("v 10", BAD, x.cord(6, 10));
        due("v -1", BAD, x.cord(6, -1));
        due("cord 1", 1, x.cord(TOLD, 9));
        due("of kind", 6, x.of(1, 0));
        due("of v", 9, x.of(1, 1));
        due("cord 2", 2, x.cord(SLIPPING, 5));
        due("cord 3", 3, x.cord(TIED, 5));
        due("cord 4", 4, x.cord(ROUGH, 5));
        due("cord 5", FULL, x.cord(ROUGH, 5));
        due("NONE before FULL", NONE, x.cord(7, 5));
        due("BAD before FULL", BAD, x.cord(0, 10));
        due("five", 5, x.count(0));
    }

    private static void turn() {
        AnyNail x = new AnyNail();
        due("no cord", NONE, x.turn(0, 0, 0));
        x.cord(CORD, 0);
        due("first", 1, x.turn(0, 2, 1));
        due("second", 2, x.turn(0, 0, 0));
        due("its code", 5, x.of(0, 100));
        due("nail 3", NONE, x.turn(0, 3, 0));
        due("nail -2", NONE, x.turn(0, -2, 0));
        due("way 2", BAD, x.turn(0, 0, 2));
        due("way -1", BAD, x.turn(0, 0, -1));
        due("NONE first", NONE, x.turn(0, 3, 2));
        due("unchanged", 2, x.of(0, 2));
        due("nail -1 of no cord", NONE, x.turn(1, -1, 0));
        due("nail -1 of no cord, no way", NONE, x.turn(-1, -1, 2));
        due("still unchanged", 2, x.of(0, 2));
        due("none then", 0, x.turn(0, -1, 1));
        due("none", 0, x.of(0, 2));
        for (int way : new int[] {2, -1, Integer.MIN_VALUE, Integer.MAX_VALUE}) {
            due("a turn again", 1, x.turn(0, 1, 0));
            due("none then, way " + way, 0, x.turn(0, -1, way));
            due("none, way " + way, 0, x.of(0, 2));
            due("none of none, way " + way, 0, x.turn(0, -1, way));
        }
        for (int i = 1; i <= 48; i++) {
            due("turn " + i, i, x.turn(0, 0, 0));
        }
        due("49", FULL, x.turn(0, 0, 0));
        due("NONE before FULL", NONE, x.turn(0, 3, 0));
        due("BAD before FULL", BAD, x.turn(0, 0, 5));
        due("48 stay", 48, x.of(0, 2));
        due("out of a full one", 0, x.turn(0, -1, 7));
        due("one again", 1, x.turn(0, 0, 0));
    }

    private static void weave() {
        AnyNail x = new AnyNail();
        due("no cord", NONE, x.weave(0, 0));
        x.cord(CORD, 0);
        due("one", 1, x.weave(0, 4));
        dueText("one", "c", rowOf(x, 0, 100));
        due("two", 4, x.weave(0, 5));
        dueText("two", "acAC", rowOf(x, 0, 100));
        due("three", 10, x.weave(0, 7));
        dueText("three", "abABcbaBAC", rowOf(x, 0, 100));
        due("set 8 of three nails", BAD, x.weave(0, 8));
        due("set 0", BAD, x.weave(0, 0));
        due("set -1", BAD, x.weave(0, -1));
        due("unchanged", 10, x.of(0, 2));
        x.nails(4);
        due("four", 22, x.weave(0, 15));
        dueText("four", "abABcbaBACdcabABCbaBAD", rowOf(x, 0, 100));
        due("set 16", BAD, x.weave(0, 16));
        due("by any one", 0xFFFE, x.of(0, 4));
        due("least", 0x0116, x.of(0, 5));
    }

    private static void of() {
        AnyNail x = with(3, ROUND, 7, "abBbAac");
        due("kind", 1, x.of(0, 0));
        due("v", 7, x.of(0, 1));
        due("turns", 7, x.of(0, 2));
        due("left", 3, x.of(0, 3));
        dueText("left", "abc", rowOf(x, 0, 200));
        dueText("turns", "abBbAac", rowOf(x, 0, 100));
        due("past the turns", NONE, x.of(0, 107));
        due("past the left", NONE, x.of(0, 203));
        due("sets", 1 << 7, x.of(0, 4));
        due("least", 1 << 7, x.of(0, 5));
        for (int what : new int[] {7, 99, -1, 199, 300, LEAST_INT, MOST_INT}) {
            due("of " + what, NONE, x.of(0, what));
        }
        due("no cord", NONE, x.of(1, 0));
        due("cord -1", NONE, x.of(-1, 4));
        x.nail(0, 0, 10);
        x.nail(1, 0, 25);
        x.nail(2, 0, 99);
        due("inches", 14 + 15 + 0 + 0 + 15 + 0 + 89, x.of(0, 6));
        x.turn(0, -1, 0);
        due("no inches", 0, x.of(0, 6));
        due("falls by all", 255, x.of(0, 4));
        due("least is none", 1, x.of(0, 5));
        due("inner pair shows an outer one", 0, with(3, CORD, 0, "abcCBA").of(0, 3));
        due("same way twice stays", 2, with(3, CORD, 0, "aa").of(0, 3));
        due("left is by no nail, of HEAVY too", 1, with(3, HEAVY, 0, "a").of(0, 3));
    }

    private static void kindsOfCords() {
        due("CORD abAB", 238, with(3, CORD, 0, "abAB").of(0, 4));
        due("ROUND aba' is not b", 204, with(3, ROUND, 0, "abA").of(0, 4));
        due("ROUGH v 0", 0x80, with(3, ROUGH, 0, "abc").of(0, 4));
        due("ROUGH v 4 is 1", 0xE8, with(3, ROUGH, 4, "abc").of(0, 4));
        due("ROUGH v 2", 0xFE, with(3, ROUGH, 2, "abc").of(0, 4));
        due("ROUGH v 9 is 0", 0x80, with(3, ROUGH, 9, "abc").of(0, 4));
        due("HEAVY v 4 of 3 is nail 1", 0xAA, with(3, HEAVY, 4, "ab").of(0, 4));
        due("HEAVY by none", 255, with(3, HEAVY, 1, "b").of(0, 4));
        due("TIED v 5 of 3 is nail 2", 0xF0, with(3, TIED, 5, "").of(0, 4));
        due("TIED abAB v 0", 0xAA, with(3, TIED, 0, "abAB").of(0, 4));
        due("SLIPPING by another", 0b11111010, with(3, SLIPPING, 1, "abC").of(0, 4));
        due("SLIPPING not by its own alone", 0xCC, with(3, SLIPPING, 3, "bA").of(0, 4));
        AnyNail x = with(4, SLIPPING, 3, "d");
        due("SLIPPING d, v 3", 0xFFFE, x.of(0, 4));
        due("not by none", 0, x.falls(0, 0));
        x = with(2, HEAVY, 3, "ab");
        due("HEAVY, n 2, v 3 is nail 1", 0b1010, x.of(0, 4));
        x.nails(3);
        due("HEAVY, n 3, v 3 is nail 0", 0b11001100, x.of(0, 4));
    }

    private static void set() {
        AnyNail x = new AnyNail();
        due("no cord", NONE, x.set(0, 0, true));
        x.cord(TOLD, 0);
        x.cord(HEAVY, 0);
        due("not yet", 0, x.set(0, 3, true));
        due("yes", 1, x.set(0, 3, true));
        due("sets", 8, x.of(0, 4));
        due("no more", 1, x.set(0, 3, false));
        due("not", 0, x.set(0, 3, false));
        due("sets", 0, x.of(0, 4));
        due("set 16", BAD, x.set(0, 16, true));
        due("set -1", BAD, x.set(0, -1, true));
        due("another kind", STATE, x.set(1, 0, true));
        due("BAD before STATE", BAD, x.set(1, 16, true));
        due("NONE before BAD", NONE, x.set(2, 16, true));
        due("set 15 of three nails", 0, x.set(0, 15, true));
        due("it stands", 1, x.set(0, 15, true));
        due("not of nails there", 0, x.of(0, 4));
        due("nor by all there", 0, x.falls(0, 7));
        x.nails(4);
        due("of nails there", 1 << 15, x.of(0, 4));
        x.turn(0, 1, 0);
        due("turns do not count", 1 << 15, x.of(0, 4));
    }

    private static void feed() {
        AnyNail x = new AnyNail();
        due("0", 1, x.feed(0));
        due("127", 2, x.feed(127));
        due("128", BAD, x.feed(128));
        due("-1", BAD, x.feed(-1));
        for (int i = 3; i <= 100; i++) {
            due("sign " + i, i, x.feed('('));
        }
        due("101", FULL, x.feed('('));
        due("BAD before FULL", BAD, x.feed(128));
        due("100", 100, x.count(3));
    }

    private static void law() {
        AnyNail x = new AnyNail();
        due("a=1", 0, feedLaw(x, "a=1"));
        due("tape is empty", 0, x.count(3));
        due("fault at the end", -13, feedLaw(x, "a=1;"));
        due("tape is empty by a fault", 0, x.count(3));
        due("one law", 1, x.count(1));
        due("law 1", 1, feedLaw(x, "!(a=1|b=1)&n<3"));
        due("law 2", 2, feedLaw(x, "!!!!!d>0"));
        due("law 3", 3, feedLaw(x, "(((((c<99)))))"));
        StringBuilder text = new StringBuilder("a=1");
        while (text.length() + 4 <= 99) {
            text.append("|b=1");
        }
        text.setCharAt(text.length() - 1, '1');
        text.append('0');
        due("law of 100", 100, text.length());
        due("law 4", 4, feedLaw(x, text.toString()));
        due("no room, a law", FULL, feedLaw(x, "a=1"));
        due("tape stays", 3, x.count(3));
        due("no room, a fault", FULL, feedLaw(x, ";"));
        due("tape stays", 4, x.count(3));
    }

    private static void faults() {
        fault("", 0);
        fault("a", 1);
        fault("a=", 2);
        fault("a==1", 2);
        fault("e=1", 0);
        fault("m=1", 0);
        fault("A=1", 0);
        fault("a=00", 3);
        fault("a=01", 3);
        fault("a=100", 4);
        fault("a=1a", 3);
        fault("a=1|", 4);
        fault("a=1||b=1", 4);
        fault("a=1&|b=1", 4);
        fault("&a=1", 0);
        fault("!", 1);
        fault("!)", 1);
        fault("()", 1);
        fault("(a=1", 4);
        fault("(a=1))", 5);
        fault("a=1)", 3);
        fault("a=1!", 3);
        fault("a=1(", 3);
        fault("!!!!!!a=1", 5);
        fault("((((((a=1))))))", 5);
        fault("!(!(!(a=1)))", 5);
        fault("!(!(!a=1)))", 10);
        fault("!!!!(!a=1)", 5);
        fault("a = 1", 1);
        fault("n?1", 1);
        fault("n<x", 2);
        noFault("!!!!!a=1&!!!!!b=1");
        noFault("!!!!(a=1)|(!!!!b=1)");
        noFault("(((((a=1)))))&(((((b=10)))))");
        noFault("n=0");
        noFault("n>99");
    }

    private static void fault(String text, int place) {
        due("FAULT of " + text, -10 - place, feedLaw(new AnyNail(), text));
    }

    private static void noFault(String text) {
        due("no FAULT: " + text, 0, feedLaw(new AnyNail(), text));
    }

    private static void sets() {
        setsOf(3, "a=1", 0xAA);
        setsOf(3, "a<1", 0x55);
        setsOf(3, "b>0", 0xCC);
        setsOf(3, "c=1", 0xF0);
        setsOf(3, "d=0", 0xFF);
        setsOf(3, "d=1", 0);
        setsOf(4, "d=1", 0xFF00);
        setsOf(3, "n=2", 0b01101000);
        setsOf(3, "n<2", 0b00010111);
        setsOf(3, "n>2", 0x80);
        setsOf(4, "n=4", 0x8000);
        setsOf(4, "n<99", 0xFFFF);
        setsOf(3, "a=1|b=1&c=1", 0xAA | 0xC0);
        setsOf(3, "b=1&c=1|a=1", 0xAA | 0xC0);
        setsOf(3, "(a=1|b=1)&c=1", 0xE0);
        setsOf(3, "!a=1&b=1", 0x44);
        setsOf(3, "!(a=1&b=1)", 0x77);
        setsOf(3, "!!a=1", 0xAA);
        setsOf(1, "a=1", 0b10);
        setsOf(1, "n<1", 0b01);
        AnyNail x = new AnyNail();
        feedLaw(x, "n>1|d=1");
        due("of three", 0b11101000, x.sets(0));
        x.nails(4);
        due("of four", 0b1111111111101000, x.sets(0));
        due("no law 1", NONE, x.sets(1));
        due("no law -1", NONE, x.sets(-1));
    }

    private static void setsOf(int nails, String text, int want) {
        AnyNail x = new AnyNail();
        x.nails(nails);
        feedLaw(x, text);
        due("SETS of " + text, want, x.sets(0));
    }

    private static void falls() {
        AnyNail x = with(3, CORD, 0, "abAB");
        due("by none", 0, x.falls(0, 0));
        due("by a", 1, x.falls(0, 1));
        due("by c", 0, x.falls(0, 4));
        due("by all", 1, x.falls(0, 7));
        due("by d", BAD, x.falls(0, 8));
        due("by -1", BAD, x.falls(0, -1));
        due("no cord", NONE, x.falls(1, 8));
        due("of least cord", NONE, x.falls(LEAST_INT, 0));
    }

    private static void keeps() {
        AnyNail x = with(3, CORD, 0, "abAB");
        feedLaw(x, "a=1|b=1");
        feedLaw(x, "a=1");
        feedLaw(x, "n>0");
        due("kept", NOTHING, x.keeps(0, 0));
        due("falls and shall not", 2, x.keeps(0, 1));
        due("shall and does not", 4, x.keeps(0, 2));
        due("no law", NONE, x.keeps(0, 3));
        due("no cord", NONE, x.keeps(1, 0));
        x.turn(0, -1, 0);
        due("by none already", 0, x.keeps(0, 0));
        x = with(2, CORD, 0, "abAB");
        feedLaw(x, "a=1|b=1|c=1");
        due("kept by the nails that are there", NOTHING, x.keeps(0, 0));
        x.nails(3);
        due("not by those that come", 4, x.keeps(0, 0));
    }

    private static void shortest() {
        shortRow(3, "a=1|b=1", 4, "abAB");
        shortRow(3, "a=1|b=1", 3, null);
        shortRow(3, "a=1&b=1", 5, "ab");
        shortRow(3, "a=1&b=1&c=1", 5, "abc");
        shortRow(4, "n=4", 5, "abcd");
        shortRow(3, "c=1", 1, "c");
        shortRow(3, "c=1", 0, null);
        shortRow(3, "n<9", 0, "");
        shortRow(3, "a=0", 5, null);
        shortRow(3, "a=1&a=0", 5, null);
        shortRow(3, "(a=1|b=1)&c=1", 5, "abABc");
        shortRow(3, "(a=1|b=1)&c=1", 4, null);
        shortRow(3, "n>0", 5, null);
        shortRow(2, "n>0", 5, "abAB");
        shortRow(4, "b=1|d=1", 5, "bdBD");
        shortRow(1, "a=1", 5, "a");
        AnyNail x = new AnyNail();
        due("no law", NONE, x.shortest(0, 0, 0));
        feedLaw(x, "a=1");
        due("k 5", NONE, x.shortest(0, 5, 5));
        due("k -2", NONE, x.shortest(0, 5, -2));
        due("m 6", BAD, x.shortest(0, 6, 0));
        due("m -1", BAD, x.shortest(0, -1, 0));
        due("NONE first", NONE, x.shortest(0, 6, 5));
        due("NONE first, law", NONE, x.shortest(1, 6, 0));
    }

    private static void shortRow(int nails, String text, int m, String want) {
        AnyNail x = new AnyNail();
        x.nails(nails);
        feedLaw(x, text);
        String call = "SHORTEST of " + text + " by " + m;
        due(call, want == null ? NOTHING : want.length(), x.shortest(0, m, -1));
        for (int k = 0; k <= 4; k++) {
            int turn = NOTHING;
            if (want != null && k < want.length()) {
                char c = want.charAt(k);
                turn = 2 * (Character.toLowerCase(c) - 'a') + (Character.isUpperCase(c) ? 1 : 0);
            }
            due(call + " at " + k, turn, x.shortest(0, m, k));
        }
    }

    private static void mend() {
        mended(CORD, "abAB", "a=1|b=1", 0);
        mended(CORD, "abABc", "a=1|b=1", 104);
        mended(CORD, "cabAB", "a=1|b=1", 100);
        mended(CORD, "abA", "a=1|b=1", 1003);
        mended(CORD, "", "a=1", 1000);
        mended(CORD, "", "c=1", 1004);
        mended(CORD, "aa", "a=1", 0);
        mended(CORD, "aabb", "a=1", NOTHING);
        mended(CORD, "aA", "a=1", 100);
        mended(CORD, "bac", "a=1&c=1", 100);
        mended(CORD, "ab", "n=3", 1004);
        mended(CORD, "abAB", "n=3", NOTHING);
        mended(CORD, "bAa", "a=1|b=1", 1023);
        mended(CORD, "bBbAa", "a=1|b=1", 1043);
        mended(CORD, "acA", "a=1|c=1", 1005);
        mended(ROUGH, "ab", "n<0", NOTHING);
        AnyNail x = new AnyNail();
        x.cord(TOLD, 0);
        feedLaw(x, "a=1&a=0");
        feedLaw(x, "n<9");
        due("TOLD that keeps", 0, x.mend(0, 0));
        due("TOLD that does not", NOTHING, x.mend(0, 1));
        due("no cord", NONE, x.mend(1, 0));
        due("no law", NONE, x.mend(0, 2));
        x = with(3, CORD, 0, "a".repeat(24) + "A".repeat(24));
        feedLaw(x, "c=1");
        due("48, one put in", 1004, x.mend(0, 0));
        due("48 stay", 48, x.of(0, 2));
    }

    private static void mended(int kind, String row, String text, int want) {
        AnyNail x = with(3, kind, 0, row);
        feedLaw(x, text);
        due("MEND of " + row + " for " + text, want, x.mend(0, 0));
        dueText("as it was", row, rowOf(x, 0, 100));
    }

    private static void alike() {
        alikeRows("abcCB", "a", 1, 1, 0);
        alikeRows("abA", "b", 0, 1, 0);
        alikeRows("abc", "bca", 0, 1, 0);
        alikeRows("abc", "cba", 0, 0, 0);
        alikeRows("abc", "CBA", 0, 0, 1);
        alikeRows("", "aA", 1, 1, 1);
        alikeRows("a", "A", 0, 0, 1);
        alikeRows("a", "aa", 0, 0, 0);
        alikeRows("cabC", "acbCA", 0, 0, 0);
        alikeRows("cabC", "aabA", 0, 1, 0);
        alikeRows("abab", "baba", 0, 1, 0);
        alikeRows("aabb", "abab", 0, 0, 0);
        AnyNail x = with(3, CORD, 0, "a");
        due("what 3", NONE, x.alike(0, 0, 3));
        due("what -1", NONE, x.alike(0, 0, -1));
        due("no one", NONE, x.alike(1, 0, 0));
        due("no other", NONE, x.alike(0, 1, 0));
        due("itself", 1, x.alike(0, 0, 0));
        x = with(3, HEAVY, 0, "a");
        x.cord(TOLD, 4);
        wind(x, 1, "a");
        due("by turns alone", 1, x.alike(0, 1, 0));
    }

    private static void alikeRows(String first, String second, int same, int rolled, int back) {
        AnyNail x = with(3, CORD, 0, first);
        x.cord(CORD, 0);
        wind(x, 1, second);
        String call = "ALIKE of " + first + ", " + second;
        due(call + " 0", same, x.alike(0, 1, 0));
        due(call + " 1", rolled, x.alike(0, 1, 1));
        due(call + " 2", back, x.alike(0, 1, 2));
        due(call + " 1, the other way round", rolled, x.alike(1, 0, 1));
    }

    private static void game() {
        gameOf(1, CORD, 0, "a", 0, NOTHING);
        gameOf(1, ROUGH, 0, "", 1, NOTHING);
        gameOf(2, CORD, 0, "a", 1, 1);
        gameOf(2, CORD, 0, "ab", 1, 0);
        gameOf(3, CORD, 0, "abc", 0, NOTHING);
        gameOf(3, CORD, 0, "abAB", 1, 2);
        gameOf(3, HEAVY, 0, "a", 1, NOTHING);
        AnyNail x = with(3, TOLD, 0, "");
        due("three that hang: the last wins", 1, x.game(0, 0));
        due("with the least", 0, x.game(0, 1));
        x.nails(2);
        due("two that hang", 0, x.game(0, 0));
        x.set(0, 1, true);
        due("not by the first", 0, x.game(0, 0));
        x.set(0, 3, true);
        due("what the other must do", 1, x.game(0, 0));
        due("with the second", 1, x.game(0, 1));
        due("what 2", NONE, x.game(0, 2));
        due("what -1", NONE, x.game(0, -1));
        due("no cord", NONE, x.game(1, 0));
    }

    private static void gameOf(int nails, int kind, int v, String row, int wins, int nail) {
        AnyNail x = with(nails, kind, v, row);
        due("GAME of " + row, wins, x.game(0, 0));
        due("GAME of " + row + " by", nail, x.game(0, 1));
    }

    private static void see() {
        AnyNail x = new AnyNail();
        due("set 8 of three", BAD, x.see(8, true));
        due("set -2", BAD, x.see(-2, true));
        for (int i = 1; i <= 8; i++) {
            due("seen " + i, i, x.see(i - 1, true));
        }
        due("ninth", FULL, x.see(0, true));
        due("BAD before FULL", BAD, x.see(8, true));
        due("eight", 8, x.count(2));
        due("none, false", 0, x.see(-1, false));
        due("none", 0, x.count(2));
        due("one again", 1, x.see(0, true));
        due("none, true", 0, x.see(-1, true));
    }

    private static void fits() {
        AnyNail x = with(3, CORD, 0, "abAB");
        due("nothing seen", 1, x.fits());
        x.cord(CORD, 0);
        x.cord(TOLD, 0);
        wind(x, 1, "c");
        due("all", 7, x.fits());
        x.see(1, true);
        due("by a", 1, x.fits());
        x.see(4, false);
        due("and not by c", 1, x.fits());
        x.see(1, false);
        due("both", 0, x.fits());
        x.see(-1, true);
        x.see(1, false);
        due("not by a", 6, x.fits());
        x.see(-1, true);
        x.nails(4);
        x.set(2, 1, true);
        x.see(9, true);
        due("by a and d", 1, x.fits());
        x.nails(3);
        due("a nail that is not there does not count", 5, x.fits());
        x.nails(4);
        due("it is there again", 1, x.fits());
    }

    private static void tries() {
        AnyNail x = new AnyNail();
        due("no cords", NOTHING, x.tries());
        x.cord(CORD, 0);
        wind(x, 0, "abAB");
        due("one cord", 0, x.tries());
        x.cord(CORD, 0);
        wind(x, 1, "b");
        due("two apart by a", 1, x.tries());
        x.cord(CORD, 0);
        wind(x, 2, "c");
        x.cord(CORD, 0);
        wind(x, 3, "c");
        due("two and two by b", 2, x.tries());
        x.see(2, true);
        due("of those that fit", 1, x.tries());
        x.see(2, false);
        due("none fits", NOTHING, x.tries());
    }

    private static void odds() {
        AnyNail x = with(3, CORD, 0, "abAB");
        due("above", 19, x.odds(0, 0));
        due("below", 100, x.odds(0, 1));
        x.nail(0, 1, 10);
        due("sure", 1, x.odds(0, 0));
        due("sure, below", 1, x.odds(0, 1));
        x.nail(0, 1, 0);
        x.nail(1, 1, 0);
        due("never", 0, x.odds(0, 0));
        due("never, below", 1, x.odds(0, 1));
        x.nail(1, 1, 5);
        due("half", 1, x.odds(0, 0));
        due("half, below", 2, x.odds(0, 1));
        due("part 2", AnyNail.NO, x.odds(0, 2));
        due("part -1", AnyNail.NO, x.odds(0, -1));
        due("no cord", AnyNail.NO, x.odds(1, 0));
    }

    private static void hangs() {
        AnyNail x = with(3, CORD, 0, "a");
        due("no day", 1, x.hangs(0, 0, 0));
        due("no day, below", 1, x.hangs(0, 0, 1));
        due("one day", 9, x.hangs(0, 1, 0));
        due("one day, below", 10, x.hangs(0, 1, 1));
        due("two days", 81, x.hangs(0, 2, 0));
        due("three days", 729, x.hangs(0, 3, 0));
        due("three days, below", 1000, x.hangs(0, 3, 1));
        due("four days", AnyNail.NO, x.hangs(0, 4, 0));
        due("-1 days", AnyNail.NO, x.hangs(0, -1, 0));
        due("part 2", AnyNail.NO, x.hangs(0, 1, 2));
        due("part -1", AnyNail.NO, x.hangs(0, 1, -1));
        due("no cord", AnyNail.NO, x.hangs(1, 1, 0));
        x.nail(0, 1, 10);
        due("gone", 0, x.hangs(0, 1, 0));
        due("gone, below", 1, x.hangs(0, 1, 1));
        x.turn(0, -1, 0);
        due("falls by none", 0, x.hangs(0, 0, 0));
        x = with(1, TOLD, 0, "");
        x.nail(0, 1, 5);
        x.set(0, 0, true);
        due("hangs by what is gone behind the days alone", 3, x.hangs(0, 2, 0));
        due("of four", 4, x.hangs(0, 2, 1));
        x = with(4, CORD, 0, "abcd");
        for (int i = 0; i < 4; i++) {
            x.nail(i, 1, 3);
        }
        due("four nails, three days", 1_000_000_000_000L - 657L * 657 * 657 * 657, x.hangs(0, 3, 0));
        due("below", 1_000_000_000_000L, x.hangs(0, 3, 1));
    }

    private static void told() {
        AnyNail x = new AnyNail();
        x.nail(1, 0, 44);
        x.nail(2, 1, 6);
        due("nails", 3, x.told(0));
        due("place 1", 44, x.told(11));
        due("weak 2", 6, x.told(22));
        for (int what : new int[] {1, 9, 13, 14, 19, 23, 24, 30, -1, -10, LEAST_INT, MOST_INT}) {
            due("told " + what, NONE, x.told(what));
        }
        x.nails(4);
        due("place 3", 0, x.told(13));
        due("weak 3", 1, x.told(23));
    }

    private static void act() {
        AnyNail x = new AnyNail();
        int[] kinds = {CORD, HEAVY, ROUGH, TIED, SLIPPING};
        int[] numbers = {3, 4, 5, 6, 7};
        for (int i = 0; i < 5; i++) {
            x.cord(kinds[i], numbers[i]);
        }
        acts(x, 0, 0, 10, 10, 1);
        acts(x, 0, 1, 10, 7, 2, 1);
        acts(x, 0, 2, 10, 14, 3, 2, 1);
        acts(x, 1, 2, 10, 14 ^ 7, 31, 3, 2, 1);
        acts(x, 1, 0, 10, 11, 1);
        acts(x, 2, 1, 10, -7, 21, 2, 1);
        acts(x, 2, 2, 10, -14, 3, 21, 2, 1);
        acts(x, 3, 0, 10, 33, 11, 1);
        acts(x, 3, 1, 10, 27, 2, 11, 1);
        acts(x, 3, 2, 10, 2 * (27 + 3 - 6) + 9, 41, 3, 2, 11, 1, 11, 1);
        acts(x, 4, 0, 10, 14 ^ 4, 51, 1);
        acts(x, 4, 1, 10, -((14 ^ 4) - 7), 21, 2, 51, 1);
        acts(x, 4, 2, 10, -2 * ((14 ^ 4) - 7), 3, 21, 2, 51, 1);
        acts(x, 0, 2, MOST_INT, (MOST_INT - 3) * 2, 3, 2, 1);
        acts(x, 3, 0, MOST_INT, MOST_INT * 3 + 3, 11, 1);
        acts(x, 5, 0, 10, 0);
        acts(x, 0, 0, 10, 10, 1);
        acts(x, 0, 3, 10, 0);
        acts(x, 0, 0, 10, 10, 1);
        acts(x, 0, -1, 10, 0);
        acts(x, -1, 0, 10, 0);
        x = new AnyNail();
        x.cord(ROUND, 1);
        x.cord(TOLD, 8);
        acts(x, 1, 0, 5, 6, 1);
        acts(x, 1, 1, 5, 6, 61, 2, 1);
        acts(x, 1, 2, 5, 12 ^ 7, 31, 3, 61, 2, 1);
        acts(x, 0, 2, 5, 28, 3, 2, 11, 1);
    }

    private static void acts(AnyNail x, int cord, int act, int input, int want, int... bodies) {
        String call = "act(" + cord + ", " + act + ", " + input + ")";
        due(call, want, x.act(cord, act, input));
        due(call + " bodies", bodies.length, x.count(4));
        for (int i = 0; i < bodies.length; i++) {
            due(call + " body " + i, bodies[i], x.trace(i));
        }
        due(call + " behind the last body", NONE, x.trace(bodies.length));
    }

    private static void trace() {
        AnyNail x = new AnyNail();
        x.cord(CORD, 0);
        x.act(0, 2, 1);
        due("first", 3, x.trace(0));
        due("last", 1, x.trace(2));
        due("behind", NONE, x.trace(3));
        due("20", NONE, x.trace(20));
        due("-1", NONE, x.trace(-1));
        due("least", NONE, x.trace(LEAST_INT));
        x.act(0, 0, 1);
        due("of the latest", 1, x.trace(0));
        due("of the latest alone", NONE, x.trace(1));
        x.act(1, 0, 1);
        due("none", NONE, x.trace(0));
    }

    private static void as() {
        int[][] kindsOver = {{0}, {0, 1}, {0, 2}, {0, 3}, {0, 1, 4}, {0, 2, 5}, {0, 3, 6}};
        for (int kind = 0; kind < 7; kind++) {
            AnyNail x = new AnyNail();
            x.cord(kind, 5);
            for (int k = 0; k < 7; k++) {
                int want = -6;
                for (int over : kindsOver[kind]) {
                    want = over == k ? 5 : want;
                }
                due("kind " + kind + " as " + k, want, x.as(0, k));
            }
            due("as 7", NONE, x.as(0, 7));
            due("as -1", NONE, x.as(0, -1));
            due("no cord", NONE, x.as(1, 0));
        }
    }

    private static void image() {
        AnyNail x = new AnyNail();
        due("none", 0, x.image());
        x.cord(CORD, 0);
        x.cord(CORD, 0);
        due("two", 2, x.image());
        x.cord(CORD, 0);
        due("undone to two", 2, x.undo());
        due("two are there", 2, x.count(0));
    }

    private static void undo() {
        AnyNail x = with(4, TOLD, 3, "abd");
        due("none", STATE, x.undo());
        x.cord(ROUGH, 5);
        x.set(0, 5, true);
        x.nail(3, 0, 33);
        x.nail(3, 1, 4);
        feedLaw(x, "a=1");
        x.feed('n');
        x.feed('>');
        x.see(3, true);
        due("image", 2, x.image());
        x.act(0, 2, 5);
        x.turn(0, -1, 0);
        x.weave(1, 7);
        x.set(0, 5, false);
        x.set(0, 6, true);
        x.nail(3, 0, 1);
        x.nail(3, 1, 2);
        x.nails(3);
        x.cord(HEAVY, 1);
        x.feed('1');
        x.law();
        x.see(-1, true);
        x.see(1, false);
        x.see(2, false);
        for (int again = 0; again < 2; again++) {
            due("undo", 2, x.undo());
            due("nails", 4, x.told(0));
            due("place", 33, x.told(13));
            due("weak", 4, x.told(23));
            due("cords", 2, x.count(0));
            due("laws", 1, x.count(1));
            due("seen", 1, x.count(2));
            due("tape", 2, x.count(3));
            due("the trace stays", 5, x.count(4));
            due("its bodies stay", 31, x.trace(0));
            due("told sets", 1 << 5, x.of(0, 4));
            dueText("turns", "abd", rowOf(x, 0, 100));
            due("turns of 1", 0, x.of(1, 2));
            due("what was seen", 0, x.fits() & 1);
            x.feed('2');
            due("the tape goes on", 1, x.law());
            due("n>2", 0xE880, x.sets(1));
            x.cord(CORD, 9);
            due("a new cord has no turns", 0, x.of(2, 2));
            x.cord(TOLD, 9);
            due("a new cord has no sets", 0, x.of(3, 4));
            x.set(3, 1, true);
            x.turn(2, 0, 0);
        }
    }

    private static void count() {
        AnyNail x = with(3, CORD, 0, "a");
        x.cord(CORD, 1);
        feedLaw(x, "a=1");
        x.see(1, true);
        x.see(1, true);
        x.see(1, true);
        x.feed('a');
        x.feed('a');
        x.feed('a');
        x.feed('a');
        x.act(0, 1, 1);
        due("cords", 2, x.count(0));
        due("laws", 1, x.count(1));
        due("seen", 3, x.count(2));
        due("tape", 4, x.count(3));
        due("bodies", 2, x.count(4));
        due("5", NONE, x.count(5));
        due("-1", NONE, x.count(-1));
    }

    private static void refusedCallsChangeNothing() {
        AnyNail x = with(3, CORD, 0, "abAB");
        x.cord(TOLD, 1);
        x.set(1, 2, true);
        feedLaw(x, "a=1");
        x.feed('b');
        x.see(1, true);
        x.act(0, 1, 3);
        x.nails(2 - 1);
        x.nail(1, 0, 100);
        x.nail(1, 1, 11);
        x.cord(9, 9);
        x.turn(0, 3, 0);
        x.turn(0, 0, 3);
        x.weave(0, 8);
        x.set(1, 16, true);
        x.set(0, 1, true);
        x.feed(128);
        x.see(8, true);
        x.undo();
        due("nails", 3, x.told(0));
        due("place", 0, x.told(11));
        due("weak", 1, x.told(21));
        due("cords", 2, x.count(0));
        due("laws", 1, x.count(1));
        due("seen", 1, x.count(2));
        due("tape", 1, x.count(3));
        due("bodies", 2, x.count(4));
        dueText("turns", "abAB", rowOf(x, 0, 100));
        due("told sets", 4, x.of(1, 4));
    }
}
