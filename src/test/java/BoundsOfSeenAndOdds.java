/** Promises 18 to 23, sentence by sentence: what was seen, what fits, the try, odds, days, what is told of nails. */
public final class BoundsOfSeenAndOdds extends Due {
    public static void main(String[] args) {
        runAll(BoundsOfSeenAndOdds.class);
    }

    // ---- promise 18: see

    static void seenIsBySetsThatAreThere() {
        sentence(18, "BAD: set (bits of NAILS); FULL.");
        AnyNail x = new AnyNail();
        for (int n = 1; n <= 4; n++) {
            x.nails(n);
            due("none of " + n, 2 * n - 1, x.see(0, true));
            due("all of " + n, 2 * n, x.see((1 << n) - 1, false));
            for (int set = 1 << n; set <= 33; set++) {
                due("set " + set + " of " + n + " nails", BAD, x.see(set, set % 2 == 0));
            }
        }
        x.see(-1, true);
        due("set 16", BAD, x.see(16, true));
        due("set -2", BAD, x.see(-2, true));
        for (int set : farNumbers()) {
            due("set " + set, BAD, x.see(set, false));
        }
        due("nothing came", 0, x.count(2));
    }

    static void seenIsEightAtMost() {
        sentence(18, "SEEN told by hand: a set of NAILS pulled, and whether it fell; 8 at most.");
        AnyNail x = new AnyNail();
        for (int i = 1; i <= 8; i++) {
            due("SEEN " + i, i, x.see(i - 1, i % 2 == 0));
            due("so many", i, x.count(2));
        }
        due("a ninth", FULL, x.see(0, true));
        due("a ninth, seen already", FULL, x.see(7, true));
        due("eight stay", 8, x.count(2));
    }

    static void seenRefusalsInTheirOrder() {
        sentence(18, "REFUSALS, of several the first one told");
        AnyNail x = new AnyNail();
        for (int i = 0; i < 8; i++) {
            x.see(i, true);
        }
        due("no set, full", BAD, x.see(8, true));
        due("no set below, full", BAD, x.see(-2, true));
        due("full", FULL, x.see(0, false));
    }

    static void setMinusOneTakesWhatWasSeen() {
        sentence(18, "What was SEEN comes: how many there are (set -1: none then, 0, whatever the other is).");
        AnyNail x = with(3, CORD, 0, "a");
        due("of none, true", 0, x.see(-1, true));
        due("of none, false", 0, x.see(-1, false));
        x.see(1, false);
        due("one does not FIT", 0, x.fits());
        due("of one, false", 0, x.see(-1, false));
        due("none is there", 0, x.count(2));
        due("all FIT again", 1, x.fits());
        for (int i = 0; i < 8; i++) {
            x.see(0, false);
        }
        due("of eight, true", 0, x.see(-1, true));
        due("room again", 1, x.see(1, true));
        due("it FITS", 1, x.fits());
    }

    static void seenTwiceComesTwice() {
        sentence(18, "What was SEEN comes: how many there are");
        AnyNail x = with(3, CORD, 0, "a");
        due("once", 1, x.see(1, true));
        due("twice", 2, x.see(1, true));
        due("it FITS", 1, x.fits());
        due("the other", 3, x.see(1, false));
        due("none FITS", 0, x.fits());
    }

    // ---- promise 19: fits

    static void fitsOfNoneOrAll() {
        sentence(19, "FITS, as bits.");
        AnyNail x = new AnyNail();
        due("no CORDS", 0, x.fits());
        x.see(0, true);
        due("no CORDS, one SEEN", 0, x.fits());
        x.see(-1, true);
        for (int i = 0; i < 5; i++) {
            addCord(x, CORD, 0, i == 4 ? "" : "a");
            due("nothing SEEN, " + i, (1 << i + 1) - 1, x.fits());
        }
        x.see(0, true);
        due("the last one alone", 16, x.fits());
        x.see(0, false);
        due("none", 0, x.fits());
    }

    static void fitsAllOfSeen() {
        sentence(19, "FITS: the CORDS of which all of SEEN is so, as bits.");
        AnyNail x = with(3, CORD, 0, "abAB");
        addCord(x, CORD, 0, "a");
        addCord(x, CORD, 0, "c");
        x.see(1, true);
        due("by the first", 3, x.fits());
        x.see(2, false);
        due("by the second, too", 2, x.fits());
        for (int i = 0; i < 5; i++) {
            x.see(7, true);
        }
        due("by the same again", 2, x.fits());
        due("the eighth", 8, x.see(3, false));
        due("by the eighth", 0, x.fits());
    }

    static void fitsWithoutNailsThatAreNotThere() {
        sentence(19, "NAILS that are not there do not count.");
        AnyNail x = with(4, TOLD, 0, "");
        x.cord(CORD, 0);
        x.turn(1, 0, 0);
        x.set(0, 9, true);
        x.see(9, true);
        due("of four", 3, x.fits());
        x.nails(3);
        due("of three", 2, x.fits());
        x.set(0, 1, true);
        due("of three, told by the nail that is there", 3, x.fits());
        due("it is SEEN still", 1, x.count(2));
    }

    static void fitsOfSlippingWithoutNailsThatAreNotThere() {
        sentence(19, "NAIL (v modulo n) counts as pulled, too, if any other NAIL is");
        AnyNail x = with(4, SLIPPING, 0, "a");
        x.see(8, true);
        due("of four, another one is pulled", 1, x.fits());
        x.nails(3);
        due("of three, none is", 0, x.fits());
        x.nails(4);
        due("of four again", 1, x.fits());
    }

    // ---- promise 20: tries

    static void triesWithoutAny() {
        sentence(20, "TRY; -5.");
        AnyNail x = new AnyNail();
        due("no CORDS", NOTHING, x.tries());
        x.cord(CORD, 0);
        due("one", 0, x.tries());
        x.see(0, false);
        due("none FITS", NOTHING, x.tries());
        x.see(-1, false);
        due("nothing SEEN", 0, x.tries());
    }

    static void triesTheLeastOfSeveral() {
        sentence(20, "how many fall and how many hang are least apart; of several the least (-5: none FIT).");
        AnyNail x = with(3, CORD, 0, "a");
        due("one is always one apart", 0, x.tries());
        addCord(x, CORD, 0, "a");
        due("two that are the same", 0, x.tries());
        addCord(x, CORD, 0, "b");
        due("two and one, by 1 and by 2", 1, x.tries());
        addCord(x, CORD, 0, "b");
        due("two and two, by 1 and by 2", 1, x.tries());
        x.turn(0, -1, 0);
        due("one that falls, by 1", 1, x.tries());
        wind(x, 0, "b");
        due("three fall by 2, three hang by 1", 1, x.tries());
        wind(x, 1, "b");
        due("four that are the same", 0, x.tries());
    }

    static void triesTheLastSet() {
        sentence(20, "TRY: the set by which, of CORDS that FIT,");
        for (int n = 1; n <= 4; n++) {
            AnyNail x = with(n, CORD, 0, "abcd".substring(0, n));
            x.cord(TOLD, 0);
            due("all of " + n, (1 << n) - 1, x.tries());
        }
    }

    static void triesCordsThatFit() {
        sentence(20, "of CORDS that FIT, how many fall and how many hang");
        AnyNail x = with(3, CORD, 0, "a");
        addCord(x, CORD, 0, "b");
        addCord(x, CORD, 0, "b");
        addCord(x, CORD, 0, "c");
        due("two and two by 2", 2, x.tries());
        x.see(2, false);
        due("the first and the last", 1, x.tries());
        x.see(1, false);
        due("the last alone", 0, x.tries());
    }

    // ---- promise 21: odds

    static void oddsNoCordOrPart() {
        sentence(21, "ODDS; part 0 above, 1 below the line. NO: cord, part.");
        AnyNail x = with(3, CORD, 0, "abAB");
        odds(x, 19, 100);
        due("part 2", NO, x.odds(0, 2));
        due("part -1", NO, x.odds(0, -1));
        for (int cord = 1; cord <= 6; cord++) {
            due("cord " + cord, NO, x.odds(cord, 0));
            due("cord " + cord, NO, x.odds(cord, 1));
        }
        due("cord -1", NO, x.odds(-1, 1));
        due("neither", NO, x.odds(1, 2));
        for (int far : farNumbers()) {
            due("cord " + far, NO, x.odds(far, 0));
            due("part " + far, NO, x.odds(0, far));
        }
    }

    static void oddsOfWeakNails() {
        sentence(21, "ODDS of a CORD: if each NAIL gives way with odds of WEAK of ten, by itself: how likely it FALLS by those "
            + "that do.");
        AnyNail x = with(1, CORD, 0, "a");
        odds(x, 1, 10);
        x.nail(0, 1, 0);
        odds(x, 0, 1);
        x.nail(0, 1, 10);
        odds(x, 1, 1);
        x.nail(0, 1, 9);
        odds(x, 9, 10);
        x = with(4, CORD, 0, "abcd");
        odds(x, 1, 10000);
        x.nail(3, 1, 7);
        odds(x, 7, 10000);
        x.nail(2, 1, 0);
        odds(x, 0, 1);
    }

    static void oddsOfNailsThatAreThere() {
        sentence(21, "NAILS 0 .. n less 1");
        AnyNail x = with(4, TOLD, 0, "");
        x.nail(3, 1, 10);
        for (int set = 1; set <= 15; set++) {
            x.set(0, set, true);
        }
        odds(x, 1, 1);
        x.nails(3);
        odds(x, 271, 1000);
        x.nails(1);
        odds(x, 1, 10);
    }

    static void oddsInLowestTerms() {
        sentence(21, "(Fractions in lowest terms.)");
        AnyNail x = with(1, CORD, 0, "a");
        long[] above = {0, 1, 1, 3, 2, 1, 3, 7, 4, 9, 1};
        long[] below = {1, 10, 5, 10, 5, 2, 5, 10, 5, 10, 1};
        for (int weak = 0; weak <= 10; weak++) {
            x.nail(0, 1, weak);
            odds(x, above[weak], below[weak]);
        }
        odds(with(4, CORD, 0, ""), 1, 1);
        odds(with(4, TOLD, 0, ""), 0, 1);
        x = with(4, CORD, 0, "abcd");
        for (int i = 0; i < 4; i++) {
            x.nail(i, 1, 5);
        }
        odds(x, 1, 16);
    }

    private static void odds(AnyNail x, long above, long below) {
        String call = "ODDS of " + rowOf(x, 0, 100) + " of KIND " + x.of(0, 0);
        due(call + ", above", above, x.odds(0, 0));
        due(call + ", below", below, x.odds(0, 1));
    }

    // ---- promise 22: hangs

    static void hangsNoCordDaysOrPart() {
        sentence(22, "HANGS; part likewise. NO: cord, d, part.");
        AnyNail x = with(3, CORD, 0, "a");
        hangs(x, 1, 9, 10);
        due("part 2", NO, x.hangs(0, 1, 2));
        due("part -1", NO, x.hangs(0, 1, -1));
        for (int cord = 1; cord <= 6; cord++) {
            due("cord " + cord, NO, x.hangs(cord, 1, 0));
            due("cord " + cord, NO, x.hangs(cord, 1, 1));
        }
        due("cord -1", NO, x.hangs(-1, 1, 1));
        due("none of them", NO, x.hangs(1, 4, 2));
        for (int far : farNumbers()) {
            due("cord " + far, NO, x.hangs(far, 1, 0));
            due("days " + far, NO, x.hangs(0, far, 0));
            due("part " + far, NO, x.hangs(0, 1, far));
        }
    }

    static void hangsOfZeroToThreeDays() {
        sentence(22, "HANGS of d days (0 .. 3):");
        AnyNail x = with(1, CORD, 0, "a");
        hangs(x, 0, 1, 1);
        hangs(x, 1, 9, 10);
        hangs(x, 2, 81, 100);
        hangs(x, 3, 729, 1000);
        due("4 days", NO, x.hangs(0, 4, 0));
        due("4 days, below", NO, x.hangs(0, 4, 1));
        due("-1 days", NO, x.hangs(0, -1, 0));
        x.nail(0, 1, 10);
        hangs(x, 0, 1, 1);
        hangs(x, 1, 0, 1);
        hangs(x, 3, 0, 1);
        x.nail(0, 1, 0);
        hangs(x, 0, 1, 1);
        hangs(x, 3, 1, 1);
        x.turn(0, -1, 0);
        hangs(x, 0, 0, 1);
        hangs(x, 3, 0, 1);
    }

    static void hangsByNailsThatAreStillThere() {
        sentence(22, "if each day each NAIL that is still there gives way so: how likely it does not FALL by those that have "
            + "behind d days.");
        AnyNail x = with(1, TOLD, 0, "");
        x.set(0, 0, true);
        x.nail(0, 1, 5);
        hangs(x, 0, 0, 1);
        hangs(x, 1, 1, 2);
        hangs(x, 2, 3, 4);
        hangs(x, 3, 7, 8);
        x = with(2, CORD, 0, "ab");
        hangs(x, 1, 99, 100);
        hangs(x, 2, 10000 - 19 * 19, 10000);
        x.nail(1, 1, 10);
        hangs(x, 2, 81, 100);
    }

    static void hangsInLowestTerms() {
        sentence(22, "(Fractions in lowest terms.)");
        AnyNail x = with(4, CORD, 0, "abcd");
        hangs(x, 3, 1_000_000_000_000L - 271L * 271 * 271 * 271, 1_000_000_000_000L);
        hangs(x, 0, 1, 1);
        for (int i = 0; i < 4; i++) {
            x.nail(i, 1, 5);
        }
        hangs(x, 1, 15, 16);
        hangs(x, 3, 4096 - 7 * 7 * 7 * 7, 4096);
        for (int i = 0; i < 4; i++) {
            x.nail(i, 1, 10);
        }
        hangs(x, 3, 0, 1);
        hangs(with(4, TOLD, 0, ""), 3, 1, 1);
    }

    private static void hangs(AnyNail x, int d, long above, long below) {
        String call = "HANGS of " + d + " days of " + rowOf(x, 0, 100) + " of KIND " + x.of(0, 0);
        due(call + ", above", above, x.hangs(0, d, 0));
        due(call + ", below", below, x.hangs(0, d, 1));
    }

    // ---- promise 23: told

    static void toldOfNailsThatAreThere() {
        sentence(23, "What 0 how many NAILS, 10 and i PLACE, 20 and i WEAK of NAIL i. NONE.");
        AnyNail x = new AnyNail();
        x.nails(4);
        for (int i = 0; i < 4; i++) {
            x.nail(i, 0, 31 + i);
            x.nail(i, 1, 3 + i);
        }
        for (int n = 1; n <= 4; n++) {
            x.nails(n);
            due("how many", n, x.told(0));
            due("PLACE of the first", 31, x.told(10));
            due("PLACE of the last", 30 + n, x.told(9 + n));
            for (int i = n; i < 10; i++) {
                due("PLACE of " + i + " of " + n, NONE, x.told(10 + i));
                due("WEAK of " + i + " of " + n, NONE, x.told(20 + i));
            }
            due("WEAK of the first", 3, x.told(20));
            due("WEAK of the last", 2 + n, x.told(19 + n));
        }
    }

    static void toldOfNoSuchWhat() {
        sentence(23, "NONE there is no such NAIL, CORD, LAW, KIND, what");
        AnyNail x = new AnyNail();
        x.nails(4);
        for (int what : new int[] {-1, -10, -20, 1, 2, 5, 9, 14, 15, 19, 24, 25, 30, 33, 100}) {
            due("what " + what, NONE, x.told(what));
        }
        for (int what : farNumbers()) {
            due("what " + what, NONE, x.told(what));
        }
    }
}
