/** Promises 12 to 17, sentence by sentence: what falls, laws that are kept, the shortest, mending, alike, the game. */
public final class BoundsOfWhatFalls extends Due {
    public static void main(String[] args) {
        runAll(BoundsOfWhatFalls.class);
    }

    // ---- promise 12: falls

    static void fallsBySetsThatAreThere() {
        sentence(12, "Whether a CORD FALLS by a set: 1, 0. NONE; BAD: set (bits of NAILS).");
        AnyNail x = with(1, CORD, 0, "a");
        for (int n = 1; n <= 4; n++) {
            x.nails(n);
            int all = (1 << n) - 1;
            due("by none", 0, x.falls(0, 0));
            due("by all of " + n, 1, x.falls(0, all));
            for (int set = all + 1; set <= 33; set++) {
                due("by " + set + " of " + n + " nails", BAD, x.falls(0, set));
            }
            due("by -1", BAD, x.falls(0, -1));
        }
        for (int set : farNumbers()) {
            due("by " + set, BAD, x.falls(0, set));
        }
    }

    static void fallsRefusalsInTheirOrder() {
        sentence(12, "REFUSALS, of several the first one told: NONE there is no such NAIL, CORD");
        AnyNail x = with(3, CORD, 0, "");
        for (int cord = 1; cord <= 6; cord++) {
            due("cord " + cord, NONE, x.falls(cord, 0));
        }
        due("cord -1", NONE, x.falls(-1, 0));
        for (int cord : farNumbers()) {
            due("cord " + cord, NONE, x.falls(cord, 0));
        }
        due("no cord, no set", NONE, x.falls(1, 8));
        due("no cord, no set below", NONE, x.falls(-1, -1));
        due("a cord, no set", BAD, x.falls(0, 8));
    }

    static void turnsAboutPulledNailsGoAhead() {
        sentence(12, "By a set of NAILS pulled all turns about these are taken out ahead of that.");
        AnyNail x = with(3, CORD, 0, "abA");
        due("what was between is gone", 1, x.falls(0, 2));
        due("what was around is gone", 0, x.falls(0, 1));
        due("a nail without a turn", 0, x.falls(0, 4));
        x = with(3, CORD, 0, "abcCBA");
        due("nothing is LEFT by none", 1, x.falls(0, 0));
        due("nor by the one in the middle", 1, x.falls(0, 2));
        dueBy(with(3, CORD, 0, "acbAcB"), "11100000");
    }

    static void cordFallsIfNothingIsLeft() {
        sentence(12, "A CORD FALLS by a set pulled: CORD: if nothing is LEFT.");
        dueBy(with(1, CORD, 9, ""), "11");
        dueBy(with(1, CORD, 9, "a"), "10");
        dueBy(with(1, CORD, 9, "aA"), "11");
        dueBy(with(2, CORD, 9, "ab"), "1000");
        dueBy(with(2, CORD, 9, "abAB"), "1110");
        dueBy(with(3, CORD, 9, "bb"), "11001100");
        for (int v = 0; v <= 9; v++) {
            dueBy(with(1, CORD, v, "a"), "10");
            dueBy(with(2, CORD, v, "ab"), "1000");
        }
    }

    static void roundFallsAsTold() {
        sentence(12, "ROUND: if nothing is LEFT; so TIED,");
        dueBy(with(1, ROUND, 2, ""), "11");
        dueBy(with(1, ROUND, 2, "a"), "10");
        dueBy(with(2, ROUND, 2, "abA"), "1100");
        dueBy(with(2, ROUND, 2, "ab"), "1000");
        dueBy(with(2, ROUND, 2, "abAB"), "1110");
        for (int v = 0; v <= 9; v++) {
            dueBy(with(1, ROUND, v, "a"), "10");
            dueBy(with(2, ROUND, v, "ab"), "1000");
        }
    }

    static void tiedFallsIfNothingIsLeft() {
        sentence(12, "ROUND: if nothing is LEFT; so TIED");
        for (int v = 0; v <= 9; v++) {
            dueBy(with(1, TIED, v, "a"), "10");
            dueBy(with(2, TIED, v, "ab"), "1000");
            dueBy(with(2, TIED, v, "abAB"), v % 2 == 0 ? "1010" : "1100");
        }
    }

    static void tiedFallsByItsNailOnly() {
        sentence(12, "so TIED, but only if NAIL (v modulo n) is in the set.");
        dueBy(with(3, TIED, 0, ""), "10101010");
        dueBy(with(3, TIED, 2, ""), "11110000");
        dueBy(with(3, TIED, 3, ""), "10101010");
        dueBy(with(3, TIED, 4, ""), "11001100");
        dueBy(with(3, TIED, 9, ""), "10101010");
        dueBy(with(1, TIED, 9, ""), "10");
        dueBy(with(2, TIED, 9, ""), "1100");
        dueBy(with(4, TIED, 9, ""), "1100110011001100");
        dueBy(with(4, TIED, 7, ""), "1111111100000000");
        dueBy(with(2, TIED, 0, "b"), "1000");
        dueBy(with(2, TIED, 0, "abAB"), "1010");
    }

    static void roughFallsByFewTurns() {
        sentence(12, "ROUGH, SLIPPING: if v modulo 3 turns or fewer are LEFT;");
        dueBy(with(1, ROUGH, 0, ""), "11");
        dueBy(with(1, ROUGH, 0, "a"), "10");
        dueBy(with(1, ROUGH, 1, "a"), "11");
        dueBy(with(1, ROUGH, 1, "aa"), "10");
        dueBy(with(1, ROUGH, 2, "aa"), "11");
        dueBy(with(1, ROUGH, 2, "aaa"), "10");
        dueBy(with(1, ROUGH, 3, "a"), "10");
        dueBy(with(1, ROUGH, 4, "a"), "11");
        dueBy(with(1, ROUGH, 4, "aa"), "10");
        dueBy(with(1, ROUGH, 8, "aa"), "11");
        dueBy(with(1, ROUGH, 8, "aaa"), "10");
        dueBy(with(1, ROUGH, 9, "a"), "10");
        dueBy(with(2, ROUGH, 1, "ab"), "1110");
        dueBy(with(1, ROUGH, 2, "aAaaAa"), "11");
    }

    static void slippingFallsByFewTurns() {
        sentence(12, "SLIPPING: if v modulo 3 turns or fewer are LEFT");
        dueBy(with(1, SLIPPING, 0, ""), "11");
        dueBy(with(1, SLIPPING, 0, "a"), "10");
        dueBy(with(1, SLIPPING, 1, "a"), "11");
        dueBy(with(1, SLIPPING, 1, "aa"), "10");
        dueBy(with(1, SLIPPING, 5, "aa"), "11");
        dueBy(with(1, SLIPPING, 5, "aaa"), "10");
        dueBy(with(1, SLIPPING, 9, "a"), "10");
    }

    static void slippingNailCountsIfAnotherIsPulled() {
        sentence(12, "SLIPPING: NAIL (v modulo n) counts as pulled, too, if any other NAIL is.");
        dueBy(with(2, SLIPPING, 0, "ab"), "1100");
        dueBy(with(2, SLIPPING, 3, "ab"), "1010");
        dueBy(with(3, SLIPPING, 3, "a"), "11111110");
        dueBy(with(3, SLIPPING, 3, "b"), "11001100");
        dueBy(with(4, SLIPPING, 9, "ba"), "1010101010101010");
        dueBy(with(1, SLIPPING, 3, "a"), "10");
        dueBy(with(3, SLIPPING, 6, "aab"), "11001100");
    }

    static void heavyNailAlwaysCounts() {
        sentence(12, "HEAVY: as CORD, NAIL (v modulo n) always counting as pulled.");
        dueBy(with(1, HEAVY, 9, "aa"), "11");
        dueBy(with(2, HEAVY, 0, "ab"), "1100");
        dueBy(with(2, HEAVY, 1, "ab"), "1010");
        dueBy(with(2, HEAVY, 9, "ab"), "1010");
        dueBy(with(3, HEAVY, 9, "ab"), "11001100");
        dueBy(with(4, HEAVY, 7, "da"), "1010101010101010");
        dueBy(with(2, HEAVY, 4, "abb"), "1100");
        dueBy(with(3, HEAVY, 5, "abc"), "10001000");
        dueBy(with(3, HEAVY, 2, "abAB"), "11101110");
        dueBy(with(3, HEAVY, 0, "abAB"), "11111111");
    }

    static void toldFallsAsTold() {
        sentence(12, "TOLD: if its SETS told by hand (bits, a set being told by the sum of 2 to the power of each NAIL's "
            + "number; none at first) have it;");
        AnyNail x = with(3, TOLD, 1, "");
        dueBy(x, "00000000");
        x.set(0, 0, true);
        x.set(0, 7, true);
        dueBy(x, "10000001");
        wind(x, 0, "b");
        dueBy(x, "10000001");
    }

    /** By each set of the nails that are there whether cord 0 falls, the last set first. */
    private static void dueBy(AnyNail x, String want) {
        StringBuilder got = new StringBuilder();
        for (int set = want.length() - 1; set >= 0; set--) {
            got.append(x.falls(0, set));
        }
        String call = "KIND " + x.of(0, 0) + ", v " + x.of(0, 1) + ", " + x.told(0) + " nails, " + rowOf(x, 0, 100);
        due("nails of " + call, want.length(), 1 << x.told(0));
        dueText(call, want, got.toString());
        due("SETS of " + call, Integer.parseInt(want, 2), x.of(0, 4));
    }

    // ---- promise 13: keeps

    static void keepsNoCordOrLaw() {
        sentence(13, "KEEPS; -5. NONE.");
        AnyNail x = with(3, CORD, 0, "a");
        due("no law yet", NONE, x.keeps(0, 0));
        feedLaw(x, "a=1");
        due("kept", NOTHING, x.keeps(0, 0));
        for (int i = 1; i <= 6; i++) {
            due("cord " + i, NONE, x.keeps(i, 0));
            due("law " + i, NONE, x.keeps(0, i));
        }
        due("cord -1", NONE, x.keeps(-1, 0));
        due("law -1", NONE, x.keeps(0, -1));
        due("neither", NONE, x.keeps(1, 1));
        for (int far : farNumbers()) {
            due("cord " + far, NONE, x.keeps(far, 0));
            due("law " + far, NONE, x.keeps(0, far));
        }
    }

    static void keepsAnswersTheLeastSet() {
        sentence(13, "KEEPS of a CORD and a LAW: the least set (as a number) that is in the SETS of just one of the two");
        keeps(3, "", "a=1", 0);
        keeps(3, "", "n>1", 0);
        keeps(3, "a", "n<9", 0);
        keeps(3, "a", "b=1", 1);
        keeps(3, "abAB", "a=1", 2);
        keeps(3, "abAB", "n>0", 4);
        keeps(3, "ab", "a=1&b=1&c=1", 3);
        keeps(3, "abc", "n>9", 7);
        keeps(4, "abcd", "n>9", 15);
        keeps(1, "a", "n>9", 1);
        keeps(1, "", "a=1", 0);
        keeps(3, "", "a=1&b=1&c=0|n<1", 1);
    }

    static void keepsLooksAtAllSets() {
        sentence(13, "the least set (as a number)");
        AnyNail x = with(3, TOLD, 0, "");
        feedLaw(x, "a=1");
        x.set(0, 1, true);
        x.set(0, 3, true);
        x.set(0, 5, true);
        due("LEAST of both is the same", 7, x.keeps(0, 0));
        x.set(0, 7, true);
        due("all of them", NOTHING, x.keeps(0, 0));
        x.set(0, 3, false);
        x.set(0, 4, true);
        due("of {0, 1} and {2} the least as a number", 3, x.keeps(0, 0));
        x.set(0, 3, true);
        due("{2} alone", 4, x.keeps(0, 0));
        x.set(0, 0, true);
        due("none pulled", 0, x.keeps(0, 0));
    }

    static void keepsByTheKindOfTheCord() {
        sentence(13, "is in the SETS of just one of the two");
        String[] laws = {"n=2", "n=2", "n>0", "a=1", "n=2", "n>0", "n>9"};
        for (int kind = 0; kind <= 6; kind++) {
            AnyNail x = with(2, kind, 1, "ab");
            feedLaw(x, laws[kind]);
            due("KIND " + kind + " and " + laws[kind], NOTHING, x.keeps(0, 0));
        }
        AnyNail x = with(2, TIED, 1, "");
        feedLaw(x, "b=1");
        due("TIED", NOTHING, x.keeps(0, 0));
        x = with(3, SLIPPING, 2, "c");
        feedLaw(x, "n<9");
        due("SLIPPING by two turns", NOTHING, x.keeps(0, 0));
    }

    static void keepsAnswersNone() {
        sentence(13, "that is in the SETS of just one of the two (-5: none)");
        keeps(1, "a", "a=1", NOTHING);
        keeps(1, "", "n<9", NOTHING);
        keeps(3, "abAB", "a=1|b=1", NOTHING);
        keeps(4, "abcd", "n=4", NOTHING);
        keeps(2, "ab", "n>1&c=0&d=0", NOTHING);
        AnyNail x = with(4, TOLD, 0, "");
        feedLaw(x, "n>9");
        due("a cord and a law without SETS", NOTHING, x.keeps(0, 0));
        x.set(0, 15, true);
        due("but by all", 15, x.keeps(0, 0));
        x.nails(3);
        due("a nail that is not there", NOTHING, x.keeps(0, 0));
    }

    private static void keeps(int nails, String row, String text, int want) {
        AnyNail x = with(nails, CORD, 0, row);
        feedLaw(x, text);
        due("KEEPS of " + row + " and " + text + " by " + nails + " nails", want, x.keeps(0, 0));
    }

    // ---- promise 14: shortest

    static void shortestNoLawOrPlace() {
        sentence(14, "NONE: law, k (-1 .. 4); BAD: m.");
        AnyNail x = new AnyNail();
        due("no law yet", NONE, x.shortest(0, 5, -1));
        feedLaw(x, "a=1");
        for (int law = 1; law <= 6; law++) {
            due("law " + law, NONE, x.shortest(law, 5, -1));
        }
        due("law -1", NONE, x.shortest(-1, 5, -1));
        due("k -1", 1, x.shortest(0, 5, -1));
        due("k -2", NONE, x.shortest(0, 5, -2));
        due("k 4", NOTHING, x.shortest(0, 5, 4));
        due("k 5", NONE, x.shortest(0, 5, 5));
        for (int far : farNumbers()) {
            due("law " + far, NONE, x.shortest(far, 5, 0));
            due("k " + far, NONE, x.shortest(0, 5, far));
        }
    }

    static void shortestByZeroToFive() {
        sentence(14, "SHORTEST of a LAW by m (0 .. 5)");
        AnyNail x = withLaw(3, "a=1");
        due("m 0", NOTHING, x.shortest(0, 0, -1));
        due("m 1", 1, x.shortest(0, 1, -1));
        due("m 5", 1, x.shortest(0, 5, -1));
        due("m 6", BAD, x.shortest(0, 6, -1));
        due("m -1", BAD, x.shortest(0, -1, -1));
        for (int m : farNumbers()) {
            due("m " + m, BAD, x.shortest(0, m, 0));
        }
        due("no law, no m", NONE, x.shortest(1, 6, 0));
        due("no k, no m", NONE, x.shortest(0, 6, 5));
        due("no k, no m, below", NONE, x.shortest(0, -1, -2));
    }

    static void shortestHasTurnsOrFewer() {
        sentence(14, "of rows of m turns or fewer by which a cord of KIND CORD would keep it");
        shortest(3, "n<9", 0, "");
        shortest(3, "n<9", 5, "");
        shortest(3, "c=1", 0, null);
        shortest(3, "c=1", 1, "c");
        shortest(3, "c=1", 5, "c");
        shortest(2, "n=2", 1, null);
        shortest(2, "n=2", 2, "ab");
        shortest(3, "n=3", 2, null);
        shortest(3, "n=3", 3, "abc");
        shortest(4, "n=4", 3, null);
        shortest(4, "n=4", 4, "abcd");
        shortest(2, "n>0", 3, null);
        shortest(2, "n>0", 4, "abAB");
        shortest(2, "n>0", 5, "abAB");
        shortest(3, "(a=1|b=1)&c=1", 4, null);
        shortest(3, "(a=1|b=1)&c=1", 5, "abABc");
        shortest(3, "n>0", 5, null);
    }

    static void shortestIsTheFirstAsARow() {
        sentence(14, "of several the first as a row (a turn being told by 2 times the NAIL and the way)");
        shortest(4, "d=1", 5, "d");
        shortest(4, "a=1&d=1", 5, "ad");
        shortest(4, "c=1|d=1", 5, "cdCD");
        shortest(4, "b=1&c=1&d=1", 5, "bcd");
        shortest(3, "a=1&(b=1|c=1)", 5, "abcBC");
        shortest(3, "b=1&(a=1|c=1)", 5, "abcAC");
    }

    static void shortestIsNone() {
        sentence(14, "(-5: there is none)");
        shortest(3, "n>9", 5, null);
        shortest(3, "a=0", 5, null);
        shortest(3, "n=1", 5, null);
        shortest(3, "d=1", 5, null);
        shortest(1, "b=1", 5, null);
        shortest(1, "a=1", 5, "a");
        shortest(3, "a=1&b=0", 5, null);
    }

    static void shortestAtPlaces() {
        sentence(14, "SHORTEST: k -1 how many turns (-5), else the k-th (-5: there are fewer, or none does).");
        AnyNail x = withLaw(2, "n>0");
        due("how many", 4, x.shortest(0, 4, -1));
        due("first", 0, x.shortest(0, 4, 0));
        due("last", 3, x.shortest(0, 4, 3));
        due("behind the last", NOTHING, x.shortest(0, 4, 4));
        due("none by 3, how many", NOTHING, x.shortest(0, 3, -1));
        due("none by 3, first", NOTHING, x.shortest(0, 3, 0));
        x = withLaw(3, "(a=1|b=1)&c=1");
        due("fifth of five", 4, x.shortest(0, 5, 4));
        x = withLaw(3, "n<9");
        due("how many, none being needed", 0, x.shortest(0, 0, -1));
        due("first of none", NOTHING, x.shortest(0, 0, 0));
    }

    private static void shortest(int nails, String text, int m, String want) {
        AnyNail x = withLaw(nails, text);
        String call = "SHORTEST of " + text + " by " + m + " of " + nails + " nails";
        due(call, want == null ? NOTHING : want.length(), x.shortest(0, m, -1));
        for (int k = 0; k <= 4; k++) {
            int turn = want == null || k >= want.length() ? NOTHING : turnOf(want.charAt(k));
            due(call + " at " + k, turn, x.shortest(0, m, k));
        }
    }

    // ---- promise 15: mend

    static void mendNoCordOrLaw() {
        sentence(15, "MEND; -5. NONE.");
        AnyNail x = with(3, CORD, 0, "a");
        due("no law yet", NONE, x.mend(0, 0));
        feedLaw(x, "a=1");
        due("kept", 0, x.mend(0, 0));
        for (int i = 1; i <= 6; i++) {
            due("cord " + i, NONE, x.mend(i, 0));
            due("law " + i, NONE, x.mend(0, i));
        }
        due("cord -1", NONE, x.mend(-1, 0));
        due("law -1", NONE, x.mend(0, -1));
        for (int far : farNumbers()) {
            due("cord " + far, NONE, x.mend(far, 0));
            due("law " + far, NONE, x.mend(0, far));
        }
    }

    static void mendOfOneThatKeeps() {
        sentence(15, "MEND of a CORD for a LAW: 0, if it keeps it;");
        mend(3, CORD, 0, "abAB", "a=1|b=1", 0);
        mend(3, CORD, 0, "", "n<9", 0);
        mend(3, CORD, 0, "aa", "a=1", 0);
        mend(3, CORD, 0, "aA", "n<9", 0);
    }

    static void mendByTakingOut() {
        sentence(15, "else the first turn (from 0; 100 and its place) that, taken out, lets it keep the LAW;");
        mend(3, CORD, 0, "b", "n<9", 100);
        mend(3, CORD, 0, "cab", "a=1&b=1", 100);
        mend(3, CORD, 0, "acb", "a=1&b=1", 101);
        mend(3, CORD, 0, "abc", "a=1&b=1", 102);
        mend(3, CORD, 0, "cc", "n<9", NOTHING);
        mend(3, CORD, 0, "aaba", "a=1", 102);
        mend(3, CORD, 0, "aA", "a=1", 100);
        mend(3, CORD, 0, "baA", "a=1&b=1", 101);
        mend(3, CORD, 0, "a" + "aA".repeat(23) + "b", "a=1", 147);
        mend(3, CORD, 0, "b" + "aA".repeat(23) + "a", "a=1", 100);
    }

    static void mendByPuttingIn() {
        sentence(15, "else the first place (0 .. how many turns there are), and at that the least turn (2 times the NAIL "
            + "and the way), that, put in there, does (1000, 10 times the place, and the turn, together);");
        mend(3, CORD, 0, "", "a=1", 1000);
        mend(3, CORD, 0, "", "c=1", 1004);
        mend(4, CORD, 0, "", "d=1", 1006);
        mend(3, CORD, 0, "A", "n<9", 100);
        mend(3, CORD, 0, "abA", "a=1|b=1", 1003);
        mend(2, CORD, 0, "baA", "n>0", 1023);
        mend(3, ROUGH, 1, "aCB", "a=1&c=1|b=1", 1034);
        mend(4, ROUGH, 2, "CCAD", "a=1&c=1|d=1", 1040);
        mend(3, CORD, 0, "a".repeat(46) + "b", "n=3", 1004);
        mend(4, ROUGH, 2, "aA".repeat(21) + "DdBBdA", "a=1|b=1&d=1", 1487);
    }

    static void mendTakesOutAheadOfPuttingIn() {
        sentence(15, "-5: none. (Of TOLD ones");
        mend(3, CORD, 0, "aA", "a=1", 100);
        mend(3, CORD, 0, "bBa", "a=1&b=1", 100);
        mend(3, CORD, 0, "", "n=2&c=0", NOTHING);
        mend(3, CORD, 0, "", "n>9", NOTHING);
        mend(3, CORD, 0, "bb", "a=1", NOTHING);
        mend(1, CORD, 0, "a", "n>9", NOTHING);
        mend(1, HEAVY, 0, "a", "a=1", NOTHING);
        mend(3, ROUGH, 0, "ab", "n<0", NOTHING);
    }

    static void mendByTheKindOfTheCord() {
        sentence(15, "0, if it keeps it; else the first turn (from 0; 100 and its place) that, taken out, lets it keep");
        mend(2, ROUND, 1, "abb", "a=1", NOTHING);
        mend(2, ROUND, 1, "ab", "a=1", 101);
        mend(2, ROUND, 1, "", "a=1", 1000);
        mend(2, ROUGH, 1, "ab", "n>0", 0);
        mend(2, ROUGH, 1, "abb", "a=1|b=1", 101);
        mend(2, HEAVY, 1, "bb", "a=1", 1000);
        mend(2, HEAVY, 1, "ab", "a=1", 0);
        mend(2, HEAVY, 0, "ba", "n<9", 100);
        mend(2, TIED, 1, "", "b=1", 0);
        mend(2, TIED, 1, "", "n=2", 1000);
        mend(2, TIED, 1, "a", "b=1", 100);
        mend(2, TIED, 0, "a", "n<9", NOTHING);
        mend(2, SLIPPING, 0, "ab", "b=1", 0);
        mend(2, SLIPPING, 0, "", "b=1", 1002);
        mend(2, SLIPPING, 0, "ba", "a=1", NOTHING);
        mend(2, SLIPPING, 0, "ba", "n>0", 100);
        mend(2, SLIPPING, 0, "", "n>0", 1000);
        mend(2, SLIPPING, 1, "aab", "n<9", NOTHING);
        mend(2, SLIPPING, 2, "aab", "n<9", 100);
        AnyNail x = with(2, TOLD, 0, "");
        x.set(0, 3, true);
        feedLaw(x, "n=2");
        due("TOLD", 0, x.mend(0, 0));
    }

    static void mendOfToldOnes() {
        sentence(15, "(Of TOLD ones: -5, if they do not keep it.)");
        mend(3, TOLD, 0, "", "a=1", NOTHING);
        mend(3, TOLD, 0, "a", "a=1", NOTHING);
        mend(3, TOLD, 0, "ab", "a=1", NOTHING);
        mend(3, TOLD, 0, "ab", "n>9", 0);
        AnyNail x = with(3, TOLD, 0, "b");
        feedLaw(x, "a=1&b=1&c=1");
        due("it falls by none", NOTHING, x.mend(0, 0));
        x.set(0, 7, true);
        due("it keeps it", 0, x.mend(0, 0));
        x.set(0, 0, true);
        due("it falls by one more", NOTHING, x.mend(0, 0));
    }

    private static void mend(int nails, int kind, int v, String row, String text, int want) {
        AnyNail x = with(nails, kind, v, row);
        feedLaw(x, text);
        due("MEND of KIND " + kind + ", " + row + " for " + text, want, x.mend(0, 0));
        dueText("TURNS stay", row, rowOf(x, 0, 100));
    }

    // ---- promise 16: alike

    static void alikeNoCordOrWhat() {
        sentence(16, "ALIKE (what 0, 1, 2): 1, 0. NONE.");
        AnyNail x = with(3, CORD, 0, "a");
        addCord(x, CORD, 0, "a");
        for (int what = 0; what <= 2; what++) {
            due("the last one", what == 2 ? 0 : 1, x.alike(0, 1, what));
            for (int cord = 2; cord <= 6; cord++) {
                due("one " + cord, NONE, x.alike(cord, 0, what));
                due("other " + cord, NONE, x.alike(0, cord, what));
            }
            due("one -1", NONE, x.alike(-1, 0, what));
            due("other -1", NONE, x.alike(0, -1, what));
        }
        due("what 3", NONE, x.alike(0, 1, 3));
        due("what -1", NONE, x.alike(0, 1, -1));
        for (int far : farNumbers()) {
            due("one " + far, NONE, x.alike(far, 0, 0));
            due("other " + far, NONE, x.alike(0, far, 0));
            due("what " + far, NONE, x.alike(0, 0, far));
        }
    }

    static void alikeByWhatIsLeft() {
        sentence(16, "what 0: LEFT of both is the same;");
        alike(0, "", "", 1);
        alike(0, "", "aA", 1);
        alike(0, "cC", "abBA", 1);
        alike(0, "a", "", 0);
        alike(0, "", "a", 0);
        alike(0, "a", "A", 0);
        alike(0, "ab", "ab", 1);
        alike(0, "ab", "ba", 0);
        alike(0, "abBc", "aCcc", 1);
        alike(0, "a", "ab", 0);
        alike(0, "ab", "a", 0);
        alike(0, "a".repeat(48), "a".repeat(48), 1);
        alike(0, "a".repeat(48), "a".repeat(47) + "b", 0);
        alike(0, "a".repeat(48), "a".repeat(47), 0);
    }

    static void alikeBehindTakingOutAtTheEnds() {
        sentence(16, "as long as the first and the last turn are about one NAIL, one this way, one that way, these two are "
            + "taken out, too:");
        alike(1, "abA", "b", 1);
        alike(1, "abcBA", "c", 1);
        alike(1, "BabAb", "b", 1);
        alike(1, "BacAb", "c", 1);
        alike(1, "aba", "b", 0);
        alike(1, "abC", "b", 0);
        alike(1, "abA", "cbC", 1);
        alike(1, "abBA", "", 1);
        alike(1, "", "", 1);
        alike(1, "a", "", 0);
        alike(1, "a", "A", 0);
        alike(1, "aa", "a", 0);
        alike(1, "a".repeat(23) + "bc" + "A".repeat(23), "bc", 1);
        alike(1, "a".repeat(23) + "bc" + "A".repeat(23), "cb", 1);
    }

    static void alikeBehindPuttingFirstOnesLast() {
        sentence(16, "what is left so of the one is that of the other one, some of its first turns (or none) being put "
            + "behind its last;");
        alike(1, "abc", "abc", 1);
        alike(1, "abc", "bca", 1);
        alike(1, "abc", "cab", 1);
        alike(1, "abc", "acb", 0);
        alike(1, "abc", "cba", 0);
        alike(1, "abc", "CBA", 0);
        alike(1, "ab", "ba", 1);
        alike(1, "aab", "aba", 1);
        alike(1, "aab", "baa", 1);
        alike(1, "aab", "abb", 0);
        alike(1, "abab", "baba", 1);
        alike(1, "abab", "ab", 0);
        alike(1, "ab", "abab", 0);
        alike(1, "a".repeat(47) + "b", "b" + "a".repeat(47), 1);
        alike(1, "a".repeat(46) + "bb", "a".repeat(45) + "bab", 0);
    }

    static void alikeFromItsEnd() {
        sentence(16, "2: LEFT of the one, read from its end, each turn the other way, is LEFT of the other one.");
        alike(2, "", "", 1);
        alike(2, "", "bB", 1);
        alike(2, "a", "A", 1);
        alike(2, "a", "a", 0);
        alike(2, "a", "", 0);
        alike(2, "abc", "CBA", 1);
        alike(2, "A", "a", 1);
        alike(2, "A", "A", 0);
        alike(2, "ABc", "Cba", 1);
        alike(2, "aBC", "cbA", 1);
        alike(2, "ABC", "CBA", 0);
        alike(2, "abc", "cba", 0);
        alike(2, "abc", "ABC", 0);
        alike(2, "abc", "abc", 0);
        alike(2, "aBbc", "CbBA", 1);
        alike(2, "ab", "BAc", 0);
        alike(2, "a".repeat(47) + "b", "B" + "A".repeat(47), 1);
        alike(2, "a".repeat(47) + "b", "A".repeat(47) + "B", 0);
    }

    static void alikeByTurnsAlone() {
        sentence(16, "ALIKE of two CORDS, by TURNS alone:");
        for (int kind = 0; kind <= 6; kind++) {
            AnyNail x = with(3, CORD, 0, "ab");
            addCord(x, kind, 1, "ab");
            due("KIND " + kind + ", 0", 1, x.alike(0, 1, 0));
            due("KIND " + kind + ", 1", 1, x.alike(0, 1, 1));
            due("KIND " + kind + ", 2", 0, x.alike(0, 1, 2));
            due("itself, 0", 1, x.alike(1, 1, 0));
            due("itself, 2", 0, x.alike(1, 1, 2));
        }
    }

    private static void alike(int what, String one, String other, int want) {
        AnyNail x = with(3, CORD, 0, one);
        addCord(x, CORD, 0, other);
        due("ALIKE of " + one + " and " + other + ", " + what, want, x.alike(0, 1, what));
        dueText("TURNS of the one stay", one, rowOf(x, 0, 100));
        dueText("TURNS of the other one stay", other, rowOf(x, 1, 100));
    }

    // ---- promise 17: game

    static void gameNoCordOrWhat() {
        sentence(17, "GAME: what 0, 1. NONE.");
        AnyNail x = with(3, CORD, 0, "abAB");
        due("what 0", 1, x.game(0, 0));
        due("what 1", 2, x.game(0, 1));
        due("what 2", NONE, x.game(0, 2));
        due("what -1", NONE, x.game(0, -1));
        for (int cord = 1; cord <= 6; cord++) {
            due("cord " + cord, NONE, x.game(cord, 0));
            due("cord " + cord, NONE, x.game(cord, 1));
        }
        due("cord -1", NONE, x.game(-1, 1));
        for (int far : farNumbers()) {
            due("cord " + far, NONE, x.game(far, 0));
            due("what " + far, NONE, x.game(0, far));
        }
        due("what 2 of one that FALLS by none", NONE, with(3, CORD, 0, "").game(0, 2));
    }

    static void gameOfOneThatFallsByNone() {
        sentence(17, "(also if it FALLS by none pulled)");
        game(with(1, CORD, 0, ""), 1, NOTHING);
        game(with(3, CORD, 0, "aA"), 1, NOTHING);
        game(with(3, HEAVY, 1, "b"), 1, NOTHING);
        game(with(4, ROUGH, 2, "ab"), 1, NOTHING);
        AnyNail x = with(3, TOLD, 0, "");
        x.set(0, 0, true);
        game(x, 1, NOTHING);
    }

    static void gameOfWhoMakesItFall() {
        sentence(17, "two by turns pull one NAIL that is still there; who makes it FALL has lost;");
        game(with(1, CORD, 0, "a"), 0, NOTHING);
        game(with(2, CORD, 0, "ab"), 1, 0);
        game(with(2, CORD, 0, "abAB"), 0, NOTHING);
        game(with(3, CORD, 0, "abc"), 0, NOTHING);
        game(with(4, CORD, 0, "abcd"), 1, 0);
        game(with(4, CORD, 0, "abcdCBAD"), 0, NOTHING);
        game(with(3, ROUGH, 2, "abc"), 0, NOTHING);
        game(with(2, CORD, 0, "a"), 1, 1);
    }

    static void gameOfWhoPulledTheLast() {
        sentence(17, "if all are pulled, and it hangs, who pulled the last one has won.");
        game(with(1, TOLD, 0, ""), 1, 0);
        game(with(2, TOLD, 0, ""), 0, NOTHING);
        game(with(3, TOLD, 0, ""), 1, 0);
        game(with(4, TOLD, 0, ""), 0, NOTHING);
    }

    static void gameWhateverTheOtherOneDoes() {
        sentence(17, "1, if who begins can win whatever the other one does");
        AnyNail x = with(2, TOLD, 0, "");
        x.set(0, 1, true);
        game(x, 0, NOTHING);
        x.set(0, 3, true);
        game(x, 1, 1);
        x = with(3, TOLD, 0, "");
        x.set(0, 3, true);
        game(x, 1, 0);
        x.set(0, 7, true);
        game(x, 0, NOTHING);
        x.set(0, 5, true);
        game(x, 1, 0);
    }

    static void gameByTheLeastNail() {
        sentence(17, "the least NAIL to begin with by which that is so (-5: none, or it FALLS by none pulled).");
        game(with(3, CORD, 0, "abAB"), 1, 2);
        game(with(3, CORD, 0, "bcBC"), 1, 0);
        game(with(3, CORD, 0, "acAC"), 1, 1);
        game(with(4, CORD, 0, "abABcbaBAC"), 1, 3);
        game(with(3, CORD, 0, "a"), 0, NOTHING);
    }

    private static void game(AnyNail x, int wins, int nail) {
        String call = "GAME of KIND " + x.of(0, 0) + ", " + rowOf(x, 0, 100) + ", " + x.told(0) + " nails";
        due(call, wins, x.game(0, 0));
        due(call + ", the NAIL", nail, x.game(0, 1));
    }
}
