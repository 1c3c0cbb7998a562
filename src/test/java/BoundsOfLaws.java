/** Promises 9 to 11, sentence by sentence: THE TAPE, laws and their faults, the sets of a law. */
public final class BoundsOfLaws extends Due {
    public static void main(String[] args) {
        runAll(BoundsOfLaws.class);
    }

    // ---- promise 9: feed

    static void signsAreZeroTo127() {
        sentence(9, "A sign (0 .. 127) comes behind THE TAPE's: how many it has.");
        AnyNail x = new AnyNail();
        due("sign 0", 1, x.feed(0));
        due("sign 127", 2, x.feed(127));
        due("sign 128", BAD, x.feed(128));
        due("sign 255", BAD, x.feed(255));
        due("sign -1", BAD, x.feed(-1));
        for (int sign : farNumbers()) {
            due("sign " + sign, BAD, x.feed(sign));
        }
        due("two are there", 2, x.count(3));
        due("a sign again", 3, x.feed(64));
    }

    static void tapeHas100AtMost() {
        sentence(9, "THE TAPE (bytes, 100 at most)");
        AnyNail x = new AnyNail();
        for (int i = 1; i <= 100; i++) {
            due("sign " + i, i, x.feed('a'));
        }
        due("sign 101", FULL, x.feed('a'));
        due("sign 101 again", FULL, x.feed('='));
        due("100 stay", 100, x.count(3));
        due("FAULT", -11, x.law());
        due("room again", 1, x.feed('a'));
    }

    static void signRefusedAtFullChangesNoSign() {
        sentence(9, "how many it has. BAD; FULL.");
        AnyNail x = new AnyNail();
        String law = "a=1|".repeat(24) + "n<10";
        due("100 signs", 100, law.length());
        for (char c : law.toCharArray()) {
            x.feed(c);
        }
        due("no more", FULL, x.feed('x'));
        due("THE TAPE is a LAW still", 0, x.law());
        due("SETS", 0xFF, x.sets(0));
    }

    static void feedRefusalsInTheirOrder() {
        sentence(9, "BAD a number is not as told; STATE as told; FULL.");
        AnyNail x = new AnyNail();
        for (int i = 0; i < 100; i++) {
            x.feed(0);
        }
        due("no sign, full", BAD, x.feed(128));
        due("no sign below, full", BAD, x.feed(-1));
        due("full", FULL, x.feed(127));
    }

    // ---- promise 10: law

    static void tapeIsEmptyBehindALaw() {
        sentence(10, "THE TAPE, which is empty then (by a FAULT, too), is a LAW: its number;");
        AnyNail x = new AnyNail();
        due("a law", 0, feedLaw(x, "a=1"));
        due("THE TAPE is empty", 0, x.count(3));
        due("nothing is no LAW", -10, x.law());
        due("a sign is the first", 1, x.feed('b'));
        due("FAULT at the end", -11, x.law());
        due("THE TAPE is empty by a FAULT", 0, x.count(3));
        due("a FAULT in the middle", -11, feedLaw(x, "a;=1|b=1"));
        due("THE TAPE is empty by it", 0, x.count(3));
        due("no LAW by a FAULT", 1, x.count(1));
        due("the next law", 1, feedLaw(x, "b=1"));
    }

    static void lawsAreFiveAtMost() {
        sentence(10, "LAWS are numbered from 0 on, 5 at most.");
        AnyNail x = new AnyNail();
        x.nails(4);
        for (int i = 0; i < 5; i++) {
            due("a law", i, feedLaw(x, "n=" + i));
            due("so many", i + 1, x.count(1));
        }
        due("a sixth one", FULL, feedLaw(x, "n>1"));
        due("five stay", 5, x.count(1));
        due("the last one", 0x8000, x.sets(4));
        due("the first one", 1, x.sets(0));
        due("no law 5", NONE, x.sets(5));
    }

    static void tapeStaysByFull() {
        sentence(10, "FULL (THE TAPE stays).");
        AnyNail x = new AnyNail();
        for (int i = 0; i < 4; i++) {
            feedLaw(x, "a=1");
        }
        x.image();
        feedLaw(x, "a=1");
        due("full", FULL, feedLaw(x, "n=3"));
        due("three signs stay", 3, x.count(3));
        due("full again", FULL, x.law());
        due("three signs stay again", 3, x.count(3));
        due("the next sign", 4, x.feed('|'));
        x.undo();
        due("THE TAPE of the image", 0, x.count(3));
        due("the fifth one", 4, feedLaw(x, "n=3"));
        due("full, THE TAPE being empty", FULL, x.law());
        due("no sign stays", 0, x.count(3));
    }

    static void faultIsTakenFromMinusTen() {
        sentence(10, "-10 less the FAULT.");
        fault("", 0);
        fault("?", 0);
        fault("a", 1);
        fault("a=", 2);
        fault("a=1&", 4);
        fault("a=1|".repeat(24) + "n<1", -1);
        fault("a=1|".repeat(24) + "n<1;", 99);
        fault("a=1|".repeat(24) + "n<;1", 98);
    }

    static void faultIsTheSizeIfItEndsTooEarly() {
        sentence(10, "(the size, if it ends too early)");
        fault("", 0);
        fault("n", 1);
        fault("n<", 2);
        fault("!", 1);
        fault("(", 1);
        fault("(a=1", 4);
        fault("((a=1)", 6);
        fault("a=1|", 4);
        fault("a=1&!", 5);
        fault("a=1|(", 5);
        fault("(a=1|b=1&", 9);
        fault("a=1|".repeat(25), 100);
    }

    static void faultIsTheFirstByteWithWhichNoLawCanGoOn() {
        sentence(10, "FAULT: the place of the first byte with which no LAW can go on");
        fault(")", 0);
        fault("|a=1", 0);
        fault("&a=1", 0);
        fault("1", 0);
        fault("=1", 0);
        fault("a=1)", 3);
        fault("a=1 ", 3);
        fault("a=1(", 3);
        fault("a=1!", 3);
        fault("a=1a", 3);
        fault("a=1=", 3);
        fault("()", 1);
        fault("!)", 1);
        fault("!|a=1", 1);
        fault("(|a=1)", 1);
        fault("(a=1))", 5);
        fault("a=1||b=1", 4);
        fault("a=1&&b=1", 4);
        fault("a=1|&b=1", 4);
        fault("aa=1", 1);
        fault("a==1", 2);
        fault("a=1|b;c;", 5);
        fault(";a=1|", 0);
        fault("(a=1;", 4);
    }

    static void bytesAreOfAnySign() {
        sentence(10, "A LAW is read from THE TAPE (bytes, 100 at most)");
        for (int sign = 0; sign <= 127; sign++) {
            boolean begins = sign == '!' || sign == '(' || sign >= 'a' && sign <= 'd' || sign == 'n';
            AnyNail x = new AnyNail();
            x.feed(sign);
            due("law() of sign " + sign, begins ? -11 : -10, x.law());
            x.feed('a');
            x.feed('=');
            x.feed('1');
            x.feed(sign);
            boolean isLaw = sign >= '0' && sign <= '9';
            due("law() of a=1 and sign " + sign, isLaw ? 0 : sign == '|' || sign == '&' ? -14 : -13, x.law());
        }
    }

    static void testsAreOfFiveNames() {
        sentence(10, "a TEST: a or b or c or d or n,");
        for (char name : "abcdn".toCharArray()) {
            fault(name + "=1", -1);
        }
        for (char name : "`efgmoABDN_".toCharArray()) {
            fault(name + "=1", 0);
            fault("a=1|" + name + "=1", 4);
        }
    }

    static void testsAreOfThreeSigns() {
        sentence(10, "one of < = >,");
        for (char sign : "<=>".toCharArray()) {
            fault("a" + sign + "1", -1);
        }
        for (char sign : ";?!1 a|&()".toCharArray()) {
            fault("a" + sign + "1", 1);
        }
        fault("a<=1", 2);
        fault("a=>1", 2);
    }

    static void numbersHaveOneOrTwoDigits() {
        sentence(10, "a number (1 or 2 digits, no 0 ahead of another)");
        for (int number = 0; number <= 99; number++) {
            fault("n<" + number, -1);
        }
        fault("n<", 2);
        fault("n</", 2);
        fault("n<:", 2);
        fault("n<-1", 2);
        fault("n<1/", 3);
        fault("n<1:", 3);
        fault("n<00", 3);
        fault("n<01", 3);
        fault("n<09", 3);
        fault("n<100", 4);
        fault("n<999", 4);
        fault("n<1 0", 3);
        fault("n<00|a=1", 3);
        fault("n<0|a=1", -1);
        fault("n<10|a=1", -1);
    }

    static void openAreFiveAtMost() {
        sentence(10, "At most 5 of ! and ( are open");
        fault("!!!!!a=1", -1);
        fault("!!!!!!a=1", 5);
        fault("(((((a=1)))))", -1);
        fault("((((((a=1))))))", 5);
        fault("!(!(!a=1))", -1);
        fault("!(!(!(a=1)))", 5);
        fault("(!(!(a=1)))", -1);
        fault("(!(!(!a=1)))", 5);
        fault("(!(!((a=1))))", 5);
        fault("a=1|!!!!!(b=1)", 9);
        fault("(((((a=1|!b=1)))))", 9);
        fault("(((((a=1&(b=1))))))", 9);
        fault("!!!!!", 5);
        fault("!!!!!!", 5);
    }

    static void openTillTheirEnds() {
        sentence(10, "(a ( till its ) , a ! till its F ends)");
        fault("!!!!!a=1|!!!!!b=1&!!!!!c=1", -1);
        fault("(((((a=1)))))&(((((b=1)))))|(((((c=1)))))", -1);
        fault("((((!a=1&(b=1)|!c=1))))", -1);
        fault("((((!a=1&!(b=1)))))", 10);
        fault("!!!!(a=1)|!!!!(b=1)", -1);
        fault("!!!!(a=1|!b=1)", 9);
        fault("!!!!(a=1|(b=1))", 9);
        fault("!!!!(a=1)&!!!!!b=1", -1);
        fault("!!!!(a=1)&!!!!!!b=1", 15);
        fault("((!(!a=1)|!!!b=1))", -1);
        fault("((!(!a=1)|!!!!b=1))", 13);
        fault("(!(a=1)&!(!(b=1)))", -1);
    }

    /** A place of -1: there is none. */
    private static void fault(String text, int place) {
        AnyNail x = new AnyNail();
        due("law() of " + text, place < 0 ? 0 : -10 - place, feedLaw(x, text));
        due("LAWS behind " + text, place < 0 ? 1 : 0, x.count(1));
        due("THE TAPE behind " + text, 0, x.count(3));
    }

    // ---- promise 11: sets

    static void setsOfNoLaw() {
        sentence(11, "SETS of a LAW. NONE.");
        AnyNail x = new AnyNail();
        due("none at first", NONE, x.sets(0));
        feedLaw(x, "a=1");
        feedLaw(x, "b=1");
        due("the first", 0xAA, x.sets(0));
        due("the last", 0xCC, x.sets(1));
        for (int law = 2; law <= 6; law++) {
            due("law " + law, NONE, x.sets(law));
        }
        due("law -1", NONE, x.sets(-1));
        for (int law : farNumbers()) {
            due("law " + law, NONE, x.sets(law));
        }
        feedLaw(x, "a=");
        due("a FAULT is no law", NONE, x.sets(2));
    }

    static void setsOfALawAreOfNailsThatAreThere() {
        sentence(11, "SETS of a LAW: those of NAILS that are there by which E holds, as bits.");
        AnyNail x = withLaw(4, "n<9");
        feedLaw(x, "n>0");
        feedLaw(x, "n>9");
        for (int n = 1; n <= 4; n++) {
            x.nails(n);
            int all = (1 << (1 << n)) - 1;
            due("all of " + n, all, x.sets(0));
            due("all but the empty one of " + n, all - 1, x.sets(1));
            due("none of " + n, 0, x.sets(2));
        }
    }

    static void setsOfALawThatWasReadWithFewerNails() {
        sentence(11, "those of NAILS that are there by which E holds");
        AnyNail x = withLaw(1, "d=1|n=3");
        due("SETS by one nail", 0, x.sets(0));
        x.nails(4);
        due("SETS by four nails", 0xFF80, x.sets(0));
        x.nails(3);
        due("SETS by three nails", 0x80, x.sets(0));
    }

    static void testsOfNails() {
        sentence(11, "of a set of NAILS a 1, if NAIL 0 is in it, else 0, b of NAIL 1 and so on, n how many are in it.");
        setsOf(4, "a=1", 0xAAAA);
        setsOf(4, "b=1", 0xCCCC);
        setsOf(4, "c=1", 0xF0F0);
        setsOf(4, "d=1", 0xFF00);
        setsOf(4, "d=0", 0x00FF);
        setsOf(3, "d=1", 0);
        setsOf(3, "d=0", 0xFF);
        setsOf(1, "a=1", 0b10);
        setsOf(1, "b=1", 0);
        setsOf(1, "b<1", 0b11);
        setsOf(4, "n=0", 1);
        setsOf(4, "n=1", 1 << 1 | 1 << 2 | 1 << 4 | 1 << 8);
        setsOf(4, "n=4", 0x8000);
        setsOf(3, "n=4", 0);
        setsOf(3, "n=3", 0x80);
        setsOf(4, "n=5", 0);
    }

    static void testsHoldJustBeyondTheirNumber() {
        sentence(11, "a TEST: a or b or c or d or n, one of < = >, a number");
        setsOf(3, "a<0", 0);
        setsOf(3, "a<1", 0x55);
        setsOf(3, "a<2", 0xFF);
        setsOf(3, "a>0", 0xAA);
        setsOf(3, "a>1", 0);
        setsOf(3, "a=2", 0);
        setsOf(3, "a=10", 0);
        setsOf(3, "n<3", 0x7F);
        setsOf(3, "n<4", 0xFF);
        setsOf(3, "n>2", 0x80);
        setsOf(3, "n>3", 0);
        setsOf(3, "n<1", 1);
        setsOf(3, "n>0", 0xFE);
        setsOf(4, "n<10", 0xFFFF);
        setsOf(4, "n<99", 0xFFFF);
        setsOf(4, "n>99", 0);
        setsOf(4, "n=99", 0);
        setsOf(4, "n<40", 0xFFFF);
        setsOf(4, "n=40", 0);
    }

    static void lawsBindAsTold() {
        sentence(11, "E: T, or T|E. T: F, or F&T. F: !F, (E), or a TEST");
        setsOf(3, "a=1|b=1&c=1", 0xAA | 0xC0);
        setsOf(3, "a=1&b=1|c=1", 0x88 | 0xF0);
        setsOf(3, "(a=1|b=1)&c=1", 0xE0);
        setsOf(3, "c=1&(a=1|b=1)", 0xE0);
        setsOf(3, "!a=1&b=1", 0x44);
        setsOf(3, "!a=1|b=1", 0xDD);
        setsOf(3, "!(a=1|b=1)", 0x11);
        setsOf(3, "!!a=1", 0xAA);
        setsOf(3, "!!!a=1", 0x55);
        setsOf(3, "a=1|b=1|c=1", 0xFE);
        setsOf(3, "a=1&b=1&c=1", 0x80);
        setsOf(4, "!n=4", 0x7FFF);
        setsOf(1, "!n=1", 0b01);
    }

    private static void setsOf(int nails, String text, int want) {
        due("SETS of " + text + " by " + nails + " nails", want, withLaw(nails, text).sets(0));
    }
}
