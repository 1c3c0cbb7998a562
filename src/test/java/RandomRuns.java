import java.math.BigInteger;
import java.util.ArrayList;
import java.util.HashMap;
import java.util.List;
import java.util.Map;
import java.util.Random;

/**
 * Runs of random calls, each answer held against that of a model written another way: rows as texts
 * (a is nail 0 this way, A that way), laws read by taking their texts together, all else from the start.
 */
public final class RandomRuns {
    private static final int RUNS = 2000, CALLS = 512;

    private static int wrong;

    public static void main(String[] args) {
        Random random = new Random(20261118);
        int checked = 0;
        for (int run = 0; run < RUNS && wrong < 20; run++) {
            AnyNail x = new AnyNail();
            Model model = new Model();
            List<String> calls = new ArrayList<>();
            while (calls.size() < CALLS && wrong < 20) {
                oneCall(random, x, model, calls, run);
            }
            checked += calls.size();
        }
        System.out.println("RandomRuns: " + checked + " calls, " + wrong + " answers not as due");
        if (wrong != 0) {
            System.exit(1);
        }
    }

    private static void due(List<String> calls, int run, String call, long want, long got) {
        calls.add(call);
        if (want != got) {
            wrong++;
            int from = Math.max(0, calls.size() - 40);
            System.out.println("run " + run + ": " + call + " answered " + got + ", due is " + want
                + " behind " + calls.subList(from, calls.size()));
        }
    }

    private static int near(Random random, int from, int to) {
        int dice = random.nextInt(60);
        if (dice == 0) {
            return random.nextInt();
        }
        if (dice == 1) {
            return random.nextBoolean() ? Integer.MIN_VALUE : Integer.MAX_VALUE;
        }
        if (dice < 5) {
            return from - 2 + random.nextInt(to - from + 5);
        }
        return from + random.nextInt(to - from + 1);
    }

    private static void oneCall(Random r, AnyNail x, Model m, List<String> calls, int run) {
        int c = near(r, 0, r.nextInt(8) == 0 ? 4 : Math.max(0, m.cords.size() - 1));
        int set = near(r, 0, (1 << m.n) - 1);
        int law = near(r, 0, Math.max(0, m.laws.size() - 1));
        boolean flag = r.nextBoolean();
        int a;
        int b;
        int d;
        switch (r.nextInt(40)) {
            case 0:
                a = r.nextInt(4) == 0 ? near(r, 1, 4) : 3;
                due(calls, run, "nails(" + a + ")", m.nails(a), x.nails(a));
                break;
            case 1:
                a = near(r, 0, 3);
                b = near(r, 0, 1);
                d = near(r, 0, b == 0 ? 99 : 10);
                due(calls, run, "nail(" + a + ", " + b + ", " + d + ")", m.nail(a, b, d), x.nail(a, b, d));
                break;
            case 2:
                a = near(r, 0, 6);
                b = near(r, 0, 9);
                due(calls, run, "cord(" + a + ", " + b + ")", m.cord(a, b), x.cord(a, b));
                break;
            case 3: case 4: case 5: case 6: case 7: case 8: case 9:
                a = r.nextInt(50) == 0 ? -1 : near(r, 0, m.n - 1);
                b = near(r, 0, 1);
                due(calls, run, "turn(" + c + ", " + a + ", " + b + ")", m.turn(c, a, b), x.turn(c, a, b));
                break;
            case 10:
                due(calls, run, "weave(" + c + ", " + set + ")", m.weave(c, set), x.weave(c, set));
                break;
            case 11: case 12: case 13:
                a = near(r, 0, 6) + (r.nextInt(3) == 0 ? 0 : r.nextInt(2) * 100 + 100 + r.nextInt(20));
                a = r.nextInt(2) == 0 ? near(r, 0, 6) : a;
                due(calls, run, "of(" + c + ", " + a + ")", m.of(c, a), x.of(c, a));
                break;
            case 14: case 15:
                a = near(r, 0, 15);
                due(calls, run, "set(" + c + ", " + a + ", " + flag + ")", m.set(c, a, flag), x.set(c, a, flag));
                break;
            case 16: case 17:
                String text = r.nextInt(3) == 0 ? broken(r, m.n) : either(r, 0, m.n);
                // What an object answers behind its 512th call is free.
                if (calls.size() + text.length() >= CALLS) {
                    break;
                }
                for (char sign : text.toCharArray()) {
                    due(calls, run, "feed(" + (int) sign + ")", m.feed(sign), x.feed(sign));
                }
                due(calls, run, "law() of " + text, m.law(), x.law());
                break;
            case 18:
                a = near(r, 0, 127);
                due(calls, run, "feed(" + a + ")", m.feed(a), x.feed(a));
                break;
            case 19:
                due(calls, run, "sets(" + law + ")", m.sets(law), x.sets(law));
                break;
            case 20:
                due(calls, run, "falls(" + c + ", " + set + ")", m.falls(c, set), x.falls(c, set));
                break;
            case 21:
                due(calls, run, "keeps(" + c + ", " + law + ")", m.keeps(c, law), x.keeps(c, law));
                break;
            case 22: case 23:
                a = near(r, 0, 5);
                b = near(r, -1, 4);
                due(calls, run, "shortest(" + law + ", " + a + ", " + b + ")", m.shortest(law, a, b), x.shortest(law, a, b));
                break;
            case 24:
                due(calls, run, "mend(" + c + ", " + law + ")", m.mend(c, law), x.mend(c, law));
                break;
            case 25: case 26:
                a = near(r, 0, Math.max(0, m.cords.size() - 1));
                b = near(r, 0, 2);
                due(calls, run, "alike(" + c + ", " + a + ", " + b + ")", m.alike(c, a, b), x.alike(c, a, b));
                break;
            case 27:
                a = near(r, 0, 1);
                due(calls, run, "game(" + c + ", " + a + ")", m.game(c, a), x.game(c, a));
                break;
            case 28:
                a = r.nextInt(3) == 0 ? -1 : set;
                due(calls, run, "see(" + a + ", " + flag + ")", m.see(a, flag), x.see(a, flag));
                break;
            case 29:
                due(calls, run, "fits()", m.fits(), x.fits());
                break;
            case 30:
                due(calls, run, "tries()", m.tries(), x.tries());
                break;
            case 31:
                a = near(r, 0, 1);
                due(calls, run, "odds(" + c + ", " + a + ")", m.odds(c, a), x.odds(c, a));
                break;
            case 32:
                a = near(r, 0, 3);
                b = near(r, 0, 1);
                due(calls, run, "hangs(" + c + ", " + a + ", " + b + ")", m.hangs(c, a, b), x.hangs(c, a, b));
                break;
            case 33:
                a = near(r, 0, 24);
                due(calls, run, "told(" + a + ")", m.told(a), x.told(a));
                break;
            case 34:
                a = near(r, 0, 2);
                b = r.nextInt();
                due(calls, run, "act(" + c + ", " + a + ", " + b + ")", m.act(c, a, b), x.act(c, a, b));
                for (int i = -1; i <= m.trace.size() && calls.size() < CALLS; i++) {
                    due(calls, run, "trace(" + i + ")", m.trace(i), x.trace(i));
                }
                break;
            case 35:
                a = near(r, 0, 6);
                due(calls, run, "as(" + c + ", " + a + ")", m.as(c, a), x.as(c, a));
                break;
            case 36:
                if (r.nextInt(5) == 0) {
                    due(calls, run, "image()", m.image(), x.image());
                }
                break;
            case 37:
                if (r.nextInt(8) == 0) {
                    due(calls, run, "undo()", m.undo(), x.undo());
                }
                break;
            case 38:
                a = near(r, 0, 4);
                due(calls, run, "count(" + a + ")", m.count(a), x.count(a));
                break;
            default:
                a = near(r, 0, 19);
                due(calls, run, "trace(" + a + ")", m.trace(a), x.trace(a));
                break;
        }
    }

    // ---- texts of laws

    private static String either(Random r, int depth, int n) {
        StringBuilder text = new StringBuilder(both(r, depth, n));
        while (r.nextInt(3) == 0 && text.length() < 60) {
            text.append('|').append(both(r, depth, n));
        }
        return text.toString();
    }

    private static String both(Random r, int depth, int n) {
        StringBuilder text = new StringBuilder(one(r, depth, n));
        while (r.nextInt(3) == 0 && text.length() < 60) {
            text.append('&').append(one(r, depth, n));
        }
        return text.toString();
    }

    private static String one(Random r, int depth, int n) {
        int dice = r.nextInt(8);
        if (dice == 0 && depth < 6) {
            return "!" + one(r, depth + 1, n);
        }
        if (dice == 1 && depth < 6) {
            return "(" + either(r, depth + 1, n) + ")";
        }
        if (dice < 6) {
            return "abcd".charAt(r.nextInt(Math.min(4, n + (r.nextInt(9) == 0 ? 1 : 0)))) + (r.nextInt(4) == 0 ? "<1" : r.nextBoolean() ? "=1" : ">0");
        }
        return "n" + "<=>".charAt(r.nextInt(3)) + (r.nextInt(9) == 0 ? r.nextInt(100) : r.nextInt(5));
    }

    private static String broken(Random r, int n) {
        StringBuilder text = new StringBuilder(either(r, 0, n));
        String signs = "!(()abcdn<=>|&0129eN; ";
        int times = 1 + r.nextInt(3);
        for (int i = 0; i < times; i++) {
            int at = r.nextInt(text.length() + 1);
            char sign = signs.charAt(r.nextInt(signs.length()));
            int how = r.nextInt(4);
            if (how == 0 || at == text.length()) {
                text.insert(at, sign);
            } else if (how == 1) {
                text.deleteCharAt(at);
            } else if (how == 2) {
                text.setCharAt(at, sign);
            } else {
                text.setLength(at);
            }
        }
        return text.toString();
    }

    // ---- the model

    private static final class MCord {
        int kind;
        int v;
        String row = "";
        boolean[] told = new boolean[16];

        MCord copy() {
            MCord c = new MCord();
            c.kind = kind;
            c.v = v;
            c.row = row;
            c.told = told.clone();
            return c;
        }
    }

    private static final class Model {
        static final int[] ABOVE = {-1, 0, 0, 0, 1, 2, 3};
        static final List<Map<Integer, String>> SHORT = new ArrayList<>();

        int n = 3;
        int[] place = new int[4];
        int[] weak = {1, 1, 1, 1};
        List<MCord> cords = new ArrayList<>();
        List<String> laws = new ArrayList<>();
        String tape = "";
        List<int[]> seen = new ArrayList<>();
        List<Integer> trace = new ArrayList<>();
        Model kept;

        Model copy() {
            Model m = new Model();
            m.take(this);
            return m;
        }

        void take(Model o) {
            n = o.n;
            place = o.place.clone();
            weak = o.weak.clone();
            cords = new ArrayList<>();
            for (MCord c : o.cords) {
                cords.add(c.copy());
            }
            laws = new ArrayList<>(o.laws);
            tape = o.tape;
            seen = new ArrayList<>(o.seen);
        }

        MCord at(int c) {
            return c >= 0 && c < cords.size() ? cords.get(c) : null;
        }

        int all() {
            return 1 << n;
        }

        static char letter(int turn) {
            return "aAbBcCdD".charAt(turn);
        }

        static int code(char letter) {
            return "aAbBcCdD".indexOf(letter);
        }

        static String shrink(String row) {
            String before;
            String now = row;
            do {
                before = now;
                for (String pair : new String[] {"dD", "Cc", "bB", "Aa", "Dd", "cC", "Bb", "aA"}) {
                    now = now.replace(pair, "");
                }
            } while (!now.equals(before));
            return now;
        }

        static String without(String row, int set) {
            String now = row;
            for (int i = 0; i < 4; i++) {
                if ((set & 1 << i) != 0) {
                    now = now.replace("" + "abcd".charAt(i), "").replace("" + "ABCD".charAt(i), "");
                }
            }
            return now;
        }

        static String back(String row) {
            StringBuilder now = new StringBuilder();
            for (char c : row.toCharArray()) {
                now.insert(0, Character.isUpperCase(c) ? Character.toLowerCase(c) : Character.toUpperCase(c));
            }
            return now.toString();
        }

        boolean fall(MCord c, String row, int pulled) {
            int set = pulled % all();
            int own = c.v % n;
            boolean hasOwn = (set & 1 << own) != 0;
            int more = set | 1 << own;
            switch (c.kind) {
                case 0: case 1:
                    return shrink(without(row, set)).isEmpty();
                case 2:
                    return shrink(without(row, set)).length() <= c.v % 3;
                case 3:
                    return shrink(without(row, more)).isEmpty();
                case 4:
                    return hasOwn && shrink(without(row, set)).isEmpty();
                case 5:
                    boolean another = Integer.bitCount(set) > (hasOwn ? 1 : 0);
                    return shrink(without(row, another ? more : set)).length() <= c.v % 3;
                default:
                    return c.told[set];
            }
        }

        int setsOf(MCord c, String row) {
            int sets = 0;
            for (int s = 0; s < all(); s++) {
                sets += fall(c, row, s) ? 1 << s : 0;
            }
            return sets;
        }

        int setsOf(String law) {
            int sets = 0;
            for (int s = 0; s < all(); s++) {
                sets += holds(law, s) ? 1 << s : 0;
            }
            return sets;
        }

        /** By splitting at the last | outside of parentheses, then at the last &. */
        static boolean holds(String text, int s) {
            for (char sign : new char[] {'|', '&'}) {
                int depth = 0;
                for (int i = text.length() - 1; i >= 0; i--) {
                    char c = text.charAt(i);
                    depth += c == ')' ? 1 : c == '(' ? -1 : 0;
                    if (depth == 0 && c == sign) {
                        boolean left = holds(text.substring(0, i), s);
                        boolean right = holds(text.substring(i + 1), s);
                        return sign == '|' ? left || right : left && right;
                    }
                }
            }
            if (text.startsWith("!")) {
                return !holds(text.substring(1), s);
            }
            if (text.startsWith("(")) {
                return holds(text.substring(1, text.length() - 1), s);
            }
            int value = text.charAt(0) == 'n' ? Integer.bitCount(s) : s >> "abcd".indexOf(text.charAt(0)) & 1;
            int number = Integer.parseInt(text.substring(2));
            switch (text.charAt(1)) {
                case '<':
                    return value < number;
                case '>':
                    return value > number;
                default:
                    return value == number;
            }
        }

        /** A whole part of a law becomes [d], at most d of ! and ( being open in it. */
        static boolean isLaw(String text) {
            if (text.contains("[")) {
                return false;
            }
            String now = text.replaceAll("[abcdn][<=>](0|[1-9][0-9]?)(?![0-9])", "[0]");
            String before;
            do {
                before = now;
                for (int d = 0; d <= 4; d++) {
                    now = now.replace("![" + d + "]", "[" + (d + 1) + "]");
                    now = now.replace("([" + d + "])", "[" + (d + 1) + "]");
                }
                for (int d = 0; d <= 5; d++) {
                    for (int e = 0; e <= 5; e++) {
                        String most = "[" + Math.max(d, e) + "]";
                        now = now.replace("[" + d + "]&[" + e + "]", most).replace("[" + d + "]|[" + e + "]", most);
                    }
                }
            } while (!now.equals(before));
            return now.matches("\\[[0-5]\\]");
        }

        static boolean canGoOn(String start) {
            for (String more : new String[] {"", "1", "=1", "a=1"}) {
                String text = start + more;
                for (int i = 0; i <= 5; i++) {
                    if (isLaw(text)) {
                        return true;
                    }
                    text += ")";
                }
            }
            return false;
        }

        static int faultOf(String text) {
            for (int i = 0; i < text.length(); i++) {
                if (!canGoOn(text.substring(0, i + 1))) {
                    return i;
                }
            }
            return text.length();
        }

        int nails(int count) {
            if (count < 1 || count > 4) {
                return -2;
            }
            for (MCord c : cords) {
                if (!without(c.row, (1 << count) - 1).isEmpty()) {
                    return -3;
                }
            }
            int before = n;
            n = count;
            return before;
        }

        int nail(int nail, int what, int number) {
            if (nail < 0 || nail >= n || (what != 0 && what != 1)) {
                return -1;
            }
            int[] row = what == 0 ? place : weak;
            if (number < 0 || number > (what == 0 ? 99 : 10)) {
                return -2;
            }
            int before = row[nail];
            row[nail] = number;
            return before;
        }

        int cord(int kind, int v) {
            if (kind < 0 || kind > 6) {
                return -1;
            }
            if (v < 0 || v > 9) {
                return -2;
            }
            if (cords.size() == 5) {
                return -4;
            }
            MCord c = new MCord();
            c.kind = kind;
            c.v = v;
            cords.add(c);
            return cords.size() - 1;
        }

        int turn(int cord, int nail, int way) {
            MCord c = at(cord);
            if (c == null || nail < -1 || nail >= n) {
                return -1;
            }
            if (nail == -1) {
                c.row = "";
                return 0;
            }
            if (way != 0 && way != 1) {
                return -2;
            }
            if (c.row.length() == 48) {
                return -4;
            }
            c.row += letter(2 * nail + way);
            return c.row.length();
        }

        int weave(int cord, int set) {
            MCord c = at(cord);
            if (c == null) {
                return -1;
            }
            if (set <= 0 || set >= all()) {
                return -2;
            }
            String row = null;
            for (int i = 0; i < n; i++) {
                if ((set & 1 << i) != 0) {
                    String it = "" + letter(2 * i);
                    row = row == null ? it : row + it + back(row) + back(it);
                }
            }
            c.row = row;
            return row.length();
        }

        int of(int cord, int what) {
            MCord c = at(cord);
            if (c == null) {
                return -1;
            }
            String row = what >= 200 ? shrink(c.row) : c.row;
            if (what >= 100) {
                int k = what >= 200 ? what - 200 : what - 100;
                return k < row.length() ? code(row.charAt(k)) : -1;
            }
            int sets = setsOf(c, c.row);
            switch (what) {
                case 0:
                    return c.kind;
                case 1:
                    return c.v;
                case 2:
                    return row.length();
                case 3:
                    return shrink(row).length();
                case 4:
                    return sets;
                case 5:
                    int least = 0;
                    for (int s = 0; s < 16; s++) {
                        boolean is = (sets & 1 << s) != 0;
                        for (int t = 0; t < 16; t++) {
                            is &= (sets & 1 << t) == 0 || t == s || (t | s) != s;
                        }
                        least += is ? 1 << s : 0;
                    }
                    return least;
                case 6:
                    int inches = 0;
                    for (int i = 0; i < row.length(); i++) {
                        int here = place[code(row.charAt(i)) / 2];
                        inches += 2 + (i == 0 ? 0 : Math.abs(here - place[code(row.charAt(i - 1)) / 2]));
                    }
                    return inches;
                default:
                    return -1;
            }
        }

        int set(int cord, int set, boolean falls) {
            MCord c = at(cord);
            if (c == null) {
                return -1;
            }
            if (set < 0 || set > 15) {
                return -2;
            }
            if (c.kind != 6) {
                return -3;
            }
            boolean before = c.told[set];
            c.told[set] = falls;
            return before ? 1 : 0;
        }

        int feed(int sign) {
            if (sign < 0 || sign > 127) {
                return -2;
            }
            if (tape.length() == 100) {
                return -4;
            }
            tape += (char) sign;
            return tape.length();
        }

        int law() {
            if (laws.size() == 5) {
                return -4;
            }
            String text = tape;
            tape = "";
            if (!isLaw(text)) {
                return -10 - faultOf(text);
            }
            laws.add(text);
            return laws.size() - 1;
        }

        boolean noLaw(int law) {
            return law < 0 || law >= laws.size();
        }

        int sets(int law) {
            return noLaw(law) ? -1 : setsOf(laws.get(law));
        }

        int falls(int cord, int set) {
            MCord c = at(cord);
            if (c == null) {
                return -1;
            }
            return set < 0 || set >= all() ? -2 : fall(c, c.row, set) ? 1 : 0;
        }

        int keeps(int cord, int law) {
            MCord c = at(cord);
            if (c == null || noLaw(law)) {
                return -1;
            }
            for (int s = 0; s < all(); s++) {
                if (fall(c, c.row, s) != holds(laws.get(law), s)) {
                    return s;
                }
            }
            return -5;
        }

        int shortest(int law, int m, int k) {
            if (noLaw(law) || k < -1 || k > 4) {
                return -1;
            }
            if (m < 0 || m > 5) {
                return -2;
            }
            String row = shortRows(n).get(setsOf(laws.get(law)));
            if (row == null || row.length() > m) {
                return -5;
            }
            return k == -1 ? row.length() : k < row.length() ? code(row.charAt(k)) : -5;
        }

        /** Of all rows of five turns or fewer the first for each of SETS. */
        static Map<Integer, String> shortRows(int n) {
            while (SHORT.size() <= n) {
                Model m = new Model();
                m.n = Math.max(1, SHORT.size());
                Map<Integer, String> rows = new HashMap<>();
                List<String> now = List.of("");
                for (int size = 0; size <= 5; size++) {
                    List<String> next = new ArrayList<>();
                    for (String row : now) {
                        rows.putIfAbsent(m.setsOf(new MCord(), row), row);
                        for (int turn = 0; turn < 2 * m.n; turn++) {
                            next.add(row + letter(turn));
                        }
                    }
                    now = next;
                }
                SHORT.add(rows);
            }
            return SHORT.get(n);
        }

        int mend(int cord, int law) {
            MCord c = at(cord);
            if (c == null || noLaw(law)) {
                return -1;
            }
            int want = setsOf(laws.get(law));
            if (setsOf(c, c.row) == want) {
                return 0;
            }
            for (int i = 0; i < c.row.length(); i++) {
                if (setsOf(c, c.row.substring(0, i) + c.row.substring(i + 1)) == want) {
                    return 100 + i;
                }
            }
            for (int i = 0; i <= c.row.length(); i++) {
                for (int turn = 0; turn < 2 * n; turn++) {
                    if (setsOf(c, c.row.substring(0, i) + letter(turn) + c.row.substring(i)) == want) {
                        return 1000 + 10 * i + turn;
                    }
                }
            }
            return -5;
        }

        static String close(String row) {
            String now = shrink(row);
            while (now.length() > 1 && back(now.substring(0, 1)).equals(now.substring(now.length() - 1))) {
                now = now.substring(1, now.length() - 1);
            }
            return now;
        }

        int alike(int one, int other, int what) {
            MCord c = at(one);
            MCord d = at(other);
            if (c == null || d == null || what < 0 || what > 2) {
                return -1;
            }
            switch (what) {
                case 0:
                    return shrink(c.row).equals(shrink(d.row)) ? 1 : 0;
                case 1:
                    String p = close(c.row);
                    String q = close(d.row);
                    return p.length() == q.length() && (q + q).contains(p) ? 1 : 0;
                default:
                    return shrink(back(c.row)).equals(shrink(d.row)) ? 1 : 0;
            }
        }

        boolean wins(MCord c, int pulled) {
            for (int i = 0; i < n; i++) {
                if (winsBy(c, pulled, i)) {
                    return true;
                }
            }
            return false;
        }

        boolean winsBy(MCord c, int pulled, int nail) {
            int then = pulled + (1 << nail);
            if ((pulled & 1 << nail) != 0 || fall(c, c.row, then)) {
                return false;
            }
            return then == all() - 1 || !wins(c, then);
        }

        int game(int cord, int what) {
            MCord c = at(cord);
            if (c == null || what < 0 || what > 1) {
                return -1;
            }
            boolean fallen = fall(c, c.row, 0);
            if (what == 0) {
                return fallen || wins(c, 0) ? 1 : 0;
            }
            for (int i = 0; i < n && !fallen; i++) {
                if (winsBy(c, 0, i)) {
                    return i;
                }
            }
            return -5;
        }

        int see(int set, boolean fell) {
            if (set == -1) {
                seen.clear();
                return 0;
            }
            if (set < 0 || set >= all()) {
                return -2;
            }
            if (seen.size() == 8) {
                return -4;
            }
            seen.add(new int[] {set, fell ? 1 : 0});
            return seen.size();
        }

        int fits() {
            int bits = 0;
            for (int i = 0; i < cords.size(); i++) {
                boolean is = true;
                for (int[] s : seen) {
                    is &= fall(cords.get(i), cords.get(i).row, s[0]) == (s[1] == 1);
                }
                bits += is ? 1 << i : 0;
            }
            return bits;
        }

        int tries() {
            int fitting = fits();
            int best = -5;
            int least = 99;
            for (int s = 0; s < all() && fitting != 0; s++) {
                int fell = 0;
                int hung = 0;
                for (int i = 0; i < cords.size(); i++) {
                    if ((fitting & 1 << i) != 0) {
                        fell += fall(cords.get(i), cords.get(i).row, s) ? 1 : 0;
                        hung += fall(cords.get(i), cords.get(i).row, s) ? 0 : 1;
                    }
                }
                if (Math.max(fell, hung) - Math.min(fell, hung) < least) {
                    least = Math.max(fell, hung) - Math.min(fell, hung);
                    best = s;
                }
            }
            return best;
        }

        /** Day by day from the set that is gone: how many of 10 to the power of the nails and days cases. */
        BigInteger cases(MCord c, int gone, int days, boolean falls) {
            if (days == 0) {
                return fall(c, c.row, gone) == falls ? BigInteger.ONE : BigInteger.ZERO;
            }
            BigInteger sum = BigInteger.ZERO;
            for (int s = 0; s < all(); s++) {
                if ((s & gone) != gone) {
                    continue;
                }
                long ways = 1;
                for (int i = 0; i < n; i++) {
                    boolean was = (gone & 1 << i) != 0;
                    ways *= was ? 10 : (s & 1 << i) != 0 ? weak[i] : 10 - weak[i];
                }
                if (ways != 0) {
                    sum = sum.add(cases(c, s, days - 1, falls).multiply(BigInteger.valueOf(ways)));
                }
            }
            return sum;
        }

        long part(MCord c, int days, boolean falls, int part) {
            BigInteger above = cases(c, 0, days, falls);
            BigInteger below = BigInteger.TEN.pow(n * days);
            return (part == 0 ? above : below).divide(above.gcd(below)).longValueExact();
        }

        long odds(int cord, int part) {
            MCord c = at(cord);
            return c == null || part < 0 || part > 1 ? Long.MIN_VALUE : part(c, 1, true, part);
        }

        long hangs(int cord, int d, int part) {
            MCord c = at(cord);
            boolean no = c == null || d < 0 || d > 3 || part < 0 || part > 1;
            return no ? Long.MIN_VALUE : part(c, d, false, part);
        }

        int told(int what) {
            if (what == 0) {
                return n;
            }
            if (what / 10 == 1 && what % 10 < n) {
                return place[what % 10];
            }
            return what / 10 == 2 && what % 10 < n ? weak[what % 10] : -1;
        }

        int act(int cord, int act, int x) {
            trace.clear();
            MCord c = at(cord);
            if (c == null || act < 0 || act > 2) {
                return 0;
            }
            Kind[] kinds = {new Kind(), new Round(), new Rough(), new Heavy(), new Tied(), new Slipping(), new Told()};
            Kind kind = kinds[c.kind];
            kind.i = cord;
            kind.v = c.v;
            kind.trace = trace;
            return act == 0 ? kind.winds(x) : act == 1 ? kind.hangs(x) : kind.tells(x);
        }

        int trace(int i) {
            return i < 0 || i >= trace.size() ? -1 : trace.get(i);
        }

        int as(int cord, int k) {
            MCord c = at(cord);
            if (c == null || k < 0 || k > 6) {
                return -1;
            }
            for (int kind = c.kind; kind >= 0; kind = ABOVE[kind]) {
                if (kind == k) {
                    return c.v;
                }
            }
            return -6;
        }

        int image() {
            kept = copy();
            return cords.size();
        }

        int undo() {
            if (kept == null) {
                return -3;
            }
            take(kept);
            return cords.size();
        }

        int count(int what) {
            int[] counts = {cords.size(), laws.size(), seen.size(), tape.length(), trace.size()};
            return what >= 0 && what < 5 ? counts[what] : -1;
        }
    }

    // ---- the bodies, as Java itself finds them

    private static class Kind {
        int i;
        int v;
        List<Integer> trace;

        int winds(int x) {
            trace.add(1);
            return x + i;
        }

        int hangs(int x) {
            trace.add(2);
            return winds(x) - v;
        }

        int tells(int x) {
            trace.add(3);
            return hangs(x) * 2;
        }
    }

    private static class Round extends Kind {
        @Override
        int winds(int x) {
            trace.add(11);
            return super.winds(x * 3);
        }
    }

    private static class Rough extends Kind {
        @Override
        int hangs(int x) {
            trace.add(21);
            return -super.hangs(x);
        }
    }

    private static class Heavy extends Kind {
        @Override
        int tells(int x) {
            trace.add(31);
            return super.tells(x) ^ 7;
        }
    }

    private static final class Tied extends Round {
        @Override
        int tells(int x) {
            trace.add(41);
            return super.tells(x - 1) + winds(2);
        }
    }

    private static final class Slipping extends Rough {
        @Override
        int winds(int x) {
            trace.add(51);
            return super.winds(x) ^ i;
        }
    }

    private static final class Told extends Heavy {
        @Override
        int hangs(int x) {
            trace.add(61);
            return super.hangs(x) + v;
        }
    }
}
