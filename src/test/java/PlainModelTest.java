import java.util.ArrayList;
import java.util.HashMap;
import java.util.List;
import java.util.Map;
import java.util.Random;
import java.util.regex.Matcher;
import java.util.regex.Pattern;

/**
 * Runs of calls by lot on the class and on a plain model of the document, written without any of
 * the class's shortcuts; every answer must be the same. The seeds are fixed: each run is the same.
 */
public final class PlainModelTest {
    private static final int RUNS = 600;
    private static final int CALLS = 512;

    public static void main(String[] args) {
        int wrong = 0;
        for (int run = 0; run < RUNS && wrong < 10; run++) {
            wrong += oneRun(new Random(7000L + run), run);
        }
        System.out.println(wrong == 0 ? "the class answers as the plain model" : "runs with wrong answers: " + wrong);
        if (wrong != 0) {
            System.exit(1);
        }
    }

    private static int oneRun(Random lot, int run) {
        PurseOfNineBowls real = new PurseOfNineBowls();
        Model model = new Model();
        List<String> calls = new ArrayList<>();
        List<int[]> waiting = new ArrayList<>();
        // Large rings are dear to search plainly, so few runs ask toEmpty and best(4) of them.
        boolean dear = run % 20 == 0;
        if (run % 3 != 0) {
            tell(waiting, ringText(lot, run % 3 == 1 ? "ohdwnq" : "ddqnoh"));
        }
        for (int i = 0; i < CALLS; i++) {
            if (waiting.isEmpty() && lot.nextInt(i == 0 ? 1 : 24) == 0) {
                tell(waiting, gameText(lot, model));
            } else if (waiting.isEmpty() && lot.nextInt(30) == 0) {
                askRow(waiting, lot, model.bowls());
            } else if (waiting.isEmpty() && run % 3 == 2 && lot.nextInt(30) == 0) {
                heap(waiting, lot, model.bowls());
            }
            int[] call = waiting.isEmpty() ? someCall(lot, model, dear) : waiting.remove(0);
            calls.add(NAMES[call[0]] + "(" + call[1] + ", " + call[2] + ")");
            int got = Calls.on(real, call);
            int due = model.answer(call);
            if (got != due) {
                System.out.println("run " + run + " behind " + calls + " answered " + got + ", due is " + due);
                return 1;
            }
        }
        return 0;
    }

    static final String[] NAMES = {"letter", "game", "bowl", "put", "set", "move", "by", "behind", "empties",
        "longest", "best", "worth", "lost", "back", "loop", "toEmpty", "price", "sold", "change", "fair",
        "sounds", "next", "played", "row", "judge", "lots", "image", "on", "count"};

    private static void tell(List<int[]> waiting, String text) {
        for (int i = 0; i < text.length(); i++) {
            waiting.add(new int[] {0, text.charAt(i), 0});
        }
        waiting.add(new int[] {1, 0, 0});
    }

    /** A ring of three bowls and more, with little to be full. */
    private static String ringText(Random lot, String kinds) {
        StringBuilder text = new StringBuilder("f").append(1 + lot.nextInt(4)).append(';');
        int bowls = 3 + lot.nextInt(7);
        for (int i = 0; i < bowls; i++) {
            int beans = lot.nextInt(21);
            text.append('b').append(kinds.charAt(lot.nextInt(6))).append(beans / 10).append(beans % 10).append(';');
        }
        return text.toString();
    }

    /** A row told for as many bowls as there are, and what is asked of it. */
    private static void askRow(List<int[]> waiting, Random lot, int bowls) {
        waiting.add(new int[] {24, 0, 0});
        for (int i = 0; i < bowls; i++) {
            waiting.add(new int[] {23, lot.nextInt(3) == 0 ? lot.nextInt(2) : 2, 0});
        }
        for (int i = 0; i < 3; i++) {
            waiting.add(new int[] {20 + lot.nextInt(2), lot.nextInt(lot.nextBoolean() ? 41 : 12), 0});
        }
    }

    /** Beans heaped up by putting and sowing, till bowls have more than they take. */
    private static void heap(List<int[]> waiting, Random lot, int bowls) {
        for (int i = 0; i < 20 && bowls > 0; i++) {
            waiting.add(new int[] {3, lot.nextInt(bowls), 20});
            waiting.add(new int[] {5, lot.nextInt(bowls), 0});
        }
    }

    private static String gameText(Random lot, Model model) {
        StringBuilder text = new StringBuilder();
        int statements = 1 + lot.nextInt(model.bowls() == 0 ? 11 : lot.nextInt(8) == 0 ? 30 : 6);
        for (int i = 0; i < statements; i++) {
            text.append(statement(lot, model.bowls() == 0 ? i : model.bowls(), model.bowls() == 0));
        }
        if (lot.nextInt(4) == 0 && text.length() > 0) {
            int at = lot.nextInt(text.length());
            switch (lot.nextInt(4)) {
                case 0: text.deleteCharAt(at); break;
                case 1: text.insert(at, "0;bosq9".charAt(lot.nextInt(7))); break;
                case 2: text.setCharAt(at, (char) lot.nextInt(256)); break;
                default: text.setLength(at); break;
            }
        }
        return text.toString();
    }

    private static String statement(Random lot, int bowls, boolean fresh) {
        int digits = lot.nextInt(20) == 0 ? 10 : Math.max(bowls, 1);
        int sort = fresh && lot.nextInt(5) != 0 ? 0 : lot.nextInt(7);
        switch (sort) {
            case 0:
            case 6: {
                int beans = lot.nextInt(12) == 0 ? lot.nextInt(100) : lot.nextInt(lot.nextBoolean() ? 5 : 21);
                return "b" + "ohdwnq".charAt(lot.nextInt(6)) + beans / 10 + beans % 10 + ";";
            }
            case 1: return "f" + (lot.nextInt(15) == 0 ? 0 : 1 + lot.nextInt(9)) + ";";
            case 2: return "l" + lot.nextInt(lot.nextInt(10) == 0 ? 10 : 2) + ";";
            case 3: return "c" + lot.nextInt(digits) + lot.nextInt(digits) + ";";
            case 4: return "t" + lot.nextInt(lot.nextInt(10) == 0 ? 10 : 2) + ";";
            default: {
                StringBuilder moves = new StringBuilder("s");
                int many = lot.nextInt(8) == 0 ? lot.nextInt(12) : 1 + lot.nextInt(3);
                for (int i = 0; i < many; i++) {
                    moves.append(lot.nextInt(digits));
                }
                return moves.append(';').toString();
            }
        }
    }

    private static final int[] EDGES = {Integer.MIN_VALUE, -1000000, -10, -9, -2, -1, 0, 1, 2, 3, 4, 5, 6, 9, 10, 11,
        12, 13, 17, 20, 21, 40, 41, 96, 99, 100, 255, 256, 1000, Integer.MAX_VALUE};

    private static int[] someCall(Random lot, Model model, boolean dear) {
        int which = 2 + lot.nextInt(NAMES.length - 2);
        if (lot.nextInt(6) == 0) {
            which = lot.nextBoolean() ? 5 : 23;
        } else if (lot.nextInt(40) == 0) {
            which = lot.nextInt(2);
        }
        int a = lot.nextInt(9);
        int b = lot.nextInt(6);
        switch (which) {
            case 3: b = lot.nextInt(lot.nextBoolean() ? 4 : 21); break;
            case 4: a = lot.nextInt(3); b = lot.nextInt(a == 0 ? 10 : 2); break;
            case 7: b = lot.nextInt(9); break;
            case 10: case 11: a = 1 + lot.nextInt(4); break;
            case 20: case 21: a = lot.nextInt(41); break;
            case 23: a = lot.nextInt(lot.nextInt(5) == 0 ? 10 : 3); break;
            case 25: a = 1 + lot.nextInt(20); b = lot.nextInt(); break;
            case 28: a = lot.nextInt(18); break;
            default: break;
        }
        if (lot.nextInt(15) == 0) {
            a = EDGES[lot.nextInt(EDGES.length)];
        }
        if (lot.nextInt(15) == 0) {
            b = EDGES[lot.nextInt(EDGES.length)];
        }
        boolean tooDear = which == 15 && (model.bowls() > 5 && !dear || model.bowls() > 7)
            || (which == 10 || which == 11) && a == 4 && model.bowls() > 6 && !dear;
        return tooDear ? new int[] {28, a, b} : new int[] {which, a, b};
    }

    private static final class Calls {
        static int on(PurseOfNineBowls x, int[] call) {
            int a = call[1];
            int b = call[2];
            switch (call[0]) {
                case 0: return x.letter(a);
                case 1: return x.game();
                case 2: return x.bowl(a, b);
                case 3: return x.put(a, b);
                case 4: return x.set(a, b);
                case 5: return x.move(a);
                case 6: return x.by(a, b);
                case 7: return x.behind(a, b);
                case 8: return x.empties(a);
                case 9: return x.longest();
                case 10: return x.best(a);
                case 11: return x.worth(a);
                case 12: return x.lost();
                case 13: return x.back(a);
                case 14: return x.loop(a, b);
                case 15: return x.toEmpty(a, b);
                case 16: return x.price(a);
                case 17: return x.sold(a);
                case 18: return x.change();
                case 19: return x.fair();
                case 20: return x.sounds(a);
                case 21: return x.next(a);
                case 22: return x.played(a);
                case 23: return x.row(a);
                case 24: return x.judge();
                case 25: return x.lots(a, b);
                case 26: return x.image();
                case 27: return x.on();
                default: return x.count(a);
            }
        }
    }

    /** Bowls, purses and whose turn it is; each sowing gives a new one. */
    private static final class Ring implements Cloneable {
        String kinds = "";
        List<Integer> beans = new ArrayList<>();
        int fullness = 4;
        boolean lent;
        int[] purse = new int[2];
        int turn;
        int moves;
        int hands;
        int last;
        int sown;
        int taken;

        Ring copy() {
            Ring r = new Ring();
            r.kinds = kinds;
            r.beans = new ArrayList<>(beans);
            r.fullness = fullness;
            r.lent = lent;
            r.purse = purse.clone();
            r.turn = turn;
            r.moves = moves;
            return r;
        }

        int size() {
            return beans.size();
        }

        int soundsFrom(int b) {
            switch (kinds.charAt(b)) {
                case 'o': return fullness;
                case 'd': return -9;
                case 'w': return fullness + fullness;
                case 'q': return 12;
                default: return fullness - fullness / 2;
            }
        }

        boolean takes(int b) {
            boolean narrowFull = kinds.charAt(b) == 'n' && beans.get(b) >= fullness;
            return !narrowFull && beans.get(b) < 99;
        }

        boolean may(int b) {
            return b >= 0 && b < size() && size() > 1 && beans.get(b) > 0;
        }

        Ring moved(int bowl) {
            Ring r = copy();
            r.sow(bowl);
            r.turn = 1 - turn;
            r.moves = moves + 1;
            return r;
        }

        private void sow(int bowl) {
            hands = 0;
            sown = 0;
            last = -9;
            int from = bowl;
            while (true) {
                int hand = beans.get(from);
                beans.set(from, 0);
                hands++;
                boolean some = false;
                int at = from;
                while (hand > 0) {
                    boolean any = false;
                    for (int b = 0; b < size(); b++) {
                        any |= takes(b);
                    }
                    if (!any) {
                        beans.set(from, beans.get(from) + hand);
                        break;
                    }
                    do {
                        at = Math.floorMod(at + (lent ? -1 : 1), size());
                    } while (!takes(at));
                    beans.set(at, beans.get(at) + 1);
                    hand--;
                    sown++;
                    some = true;
                    last = at;
                }
                boolean sounds = last >= 0 && soundsFrom(last) > 0 && beans.get(last) >= soundsFrom(last);
                if (!some || !sounds || hands >= 60) {
                    break;
                }
                from = last;
            }
            taken = 0;
            if (last >= 0 && beans.get(last) == 1 && purse[turn] < 999) {
                taken = 1;
                beans.set(last, 0);
                purse[turn]++;
            }
        }
    }

    private static final class Model {
        private static final Pattern GAME = Pattern.compile(
            "(b[ohdwnq][0-9]{2};|[flt][0-9];|c[0-9]{2};|s[0-9]{1,9};)+", Pattern.DOTALL);

        private Ring ring = new Ring();
        private Ring image;
        private StringBuilder letters = new StringBuilder();
        private List<Integer> row = new ArrayList<>();
        private final int[] refused = new int[7];

        int bowls() {
            return ring.size();
        }

        private int refuse(int kind) {
            refused[-kind]++;
            return kind;
        }

        int answer(int[] call) {
            int a = call[1];
            int b = call[2];
            boolean bowlNeeded = "bowl put move by behind empties back loop toEmpty price sold ".contains(
                NAMES[call[0]] + " ") && call[0] != 27;
            boolean far = call[0] == 11 || call[0] == 16 || call[0] == 17 || call[0] == 25;
            int refusal = 0;
            if (bowlNeeded && (a < 0 || a >= bowls() || call[0] == 7 && (b < 0 || b >= bowls()))) {
                refusal = -1;
            } else {
                refusal = refusal(call[0], a, b);
            }
            if (refusal != 0) {
                return far ? 1000000000 - refuse(refusal) : refuse(refusal);
            }
            return call[0] < 13 ? early(call[0], a, b) : late(call[0], a, b);
        }

        private static int within(int v, int least, int most) {
            return v < least ? -4 : v > most ? -6 : 0;
        }

        private int refusal(int which, int a, int b) {
            switch (NAMES[which]) {
                case "letter": return a >= 0 && letters.length() == 96 ? -6 : within(a, 0, 255);
                case "bowl": return b < 0 || b > 3 ? -2 : 0;
                case "put": return within(b, 0, 20);
                case "set": return a < 0 || a > 2 ? -2 : within(b, a == 0 ? 1 : 0, a == 0 ? 9 : 1);
                case "move": return !ring.may(a) ? -3 : ring.moves >= 999 ? -6 : 0;
                case "by": return b < 0 || b > 4 ? -2 : ring.may(a) ? 0 : -3;
                case "behind":
                case "empties": return ring.may(a) ? 0 : -3;
                case "best":
                case "worth": return within(a, 1, 4);
                case "loop":
                case "toEmpty": return b < 0 || b > 1 ? -2 : 0;
                case "sold": return ring.beans.get(a) == 0 ? -3 : 0;
                case "sounds":
                case "next": {
                    boolean fits = row.size() == bowls() && row.stream().allMatch(v -> v < 3);
                    return within(a, 0, 40) != 0 ? within(a, 0, 40) : fits ? 0 : -3;
                }
                case "played": return a < 0 || a > 1 ? -2 : 0;
                case "row": return a >= 0 && row.size() == 12 ? -6 : within(a, 0, 9);
                case "lots": return within(a, 1, 20) != 0 ? within(a, 1, 20) : bowls() < 2 ? -3 : 0;
                case "on": return image == null ? -3 : 0;
                default: return 0;
            }
        }

        private int early(int which, int a, int b) {
            switch (NAMES[which]) {
                case "letter": letters.append((char) a); return letters.length();
                case "game": return game();
                case "bowl": return b == 0 ? "ohdwnq".indexOf(ring.kinds.charAt(a)) : b == 1 ? ring.beans.get(a)
                    : b == 2 ? ring.soundsFrom(a) : ring.takes(a) ? 1 : 0;
                case "put": return ring.beans.set(a, b);
                case "set": return set(a, b);
                case "move": ring = ring.moved(a); return ring.taken;
                case "by": {
                    Ring r = ring.moved(a);
                    return b == 4 ? sum(r) : new int[] {r.hands, r.last, r.sown, r.taken}[b];
                }
                case "behind": return ring.moved(a).beans.get(b);
                case "empties": {
                    Ring r = ring.moved(a);
                    int bits = 0;
                    for (int i = 0; i < bowls(); i++) {
                        bits += r.beans.get(i) == 0 ? 1 << i : 0;
                    }
                    return bits;
                }
                case "longest": {
                    int most = -9;
                    for (int i = bowls() - 1; i >= 0; i--) {
                        if (ring.may(i) && (most < 0 || ring.moved(i).sown >= ring.moved(most).sown)) {
                            most = i;
                        }
                    }
                    return most;
                }
                case "best": return bestOf(ring, a);
                case "worth": return worthOf(ring, a);
                default: return bestOf(ring, 1) < 0 ? 1 : 0;
            }
        }

        private int late(int which, int a, int b) {
            switch (NAMES[which]) {
                case "back": {
                    Ring r = ring;
                    for (int i = 1; i <= 200 && r.may(a); i++) {
                        r = r.moved(a);
                        if (r.beans.equals(ring.beans)) {
                            return i;
                        }
                    }
                    return -9;
                }
                case "loop": return loop(a, b);
                case "toEmpty": return toEmpty(a, b);
                case "price": return worthWith(a, 1) - worthOf(ring, 2);
                case "sold": return worthWith(a, -1) - worthOf(ring, 2);
                case "change": return change();
                case "fair": return fair();
                case "sounds": return (int) Math.min(1000000000L, ways(row, a));
                case "next": return next(a);
                case "played": return behindRow().purse[a];
                case "row": row.add(a); return row.size();
                case "judge": {
                    int made = behindRow().moves - ring.moves;
                    int answer = made == row.size() ? -9 : made;
                    row.clear();
                    return answer;
                }
                case "lots": return lots(a, b);
                case "image": image = ring.copy(); return ring.moves;
                case "on": ring = image.copy(); return ring.moves;
                default: return count(a);
            }
        }

        private int set(int what, int v) {
            int before = what == 0 ? ring.fullness : what == 1 ? (ring.lent ? 1 : 0) : ring.turn;
            if (what == 0) {
                ring.fullness = v;
            } else if (what == 1) {
                ring.lent = v == 1;
            } else {
                ring.turn = v;
            }
            return before;
        }

        private static int sum(Ring r) {
            return r.beans.stream().mapToInt(v -> v).sum();
        }

        private int game() {
            String text = letters.toString();
            letters = new StringBuilder();
            if (!GAME.matcher(text).matches()) {
                for (int i = 1; i <= text.length(); i++) {
                    Matcher m = GAME.matcher(text.substring(0, i));
                    if (!m.matches() && !m.hitEnd()) {
                        return -1000 - (i - 1);
                    }
                }
                return -1000 - text.length();
            }
            Ring r = ring.copy();
            int at = 0;
            String[] statements = text.split(";");
            for (String s : statements) {
                r = behindStatement(r, s);
                if (r == null) {
                    return -2000 - at;
                }
                at += s.length() + 1;
            }
            ring = r;
            return statements.length;
        }

        private static Ring behindStatement(Ring given, String s) {
            Ring r = given;
            int number = s.charAt(0) == 'b' ? Integer.parseInt(s.substring(2)) : Integer.parseInt(s.substring(1, 2));
            switch (s.charAt(0)) {
                case 'b':
                    if (number > 20 || r.size() == 9) {
                        return null;
                    }
                    r.kinds += s.charAt(1);
                    r.beans.add(number);
                    return r;
                case 'f': r.fullness = number; return number == 0 ? null : r;
                case 'l': r.lent = number == 1; return number > 1 ? null : r;
                case 't': r.turn = number; return number > 1 ? null : r;
                case 'c': {
                    int other = s.charAt(2) - '0';
                    if (other == number || other >= r.size() || number >= r.size()) {
                        return null;
                    }
                    r.beans.set(other, r.beans.set(number, r.beans.get(other)));
                    return r;
                }
                default:
                    for (char c : s.substring(1).toCharArray()) {
                        if (!r.may(c - '0') || r.moves == 999) {
                            return null;
                        }
                        r = r.moved(c - '0');
                    }
                    return r;
            }
        }

        /** The ring at the end if both play their best n moves. */
        private static Ring end(Ring r, int n) {
            int b = bestOf(r, n);
            return n == 0 || b < 0 ? r : end(r.moved(b), n - 1);
        }

        private static int bestOf(Ring r, int n) {
            int best = -9;
            int most = 0;
            for (int b = 0; n > 0 && b < r.size(); b++) {
                if (r.may(b)) {
                    Ring e = end(r.moved(b), n - 1);
                    int above = e.purse[r.turn] - e.purse[1 - r.turn];
                    if (best < 0 || above > most) {
                        best = b;
                        most = above;
                    }
                }
            }
            return best;
        }

        private static int worthOf(Ring r, int n) {
            Ring e = end(r, n);
            return e.purse[r.turn] - e.purse[1 - r.turn] - (r.purse[r.turn] - r.purse[1 - r.turn]);
        }

        private int worthWith(int bowl, int more) {
            Ring r = ring.copy();
            r.beans.set(bowl, r.beans.get(bowl) + more);
            return worthOf(r, 2);
        }

        private int loop(int bowl, int what) {
            Map<List<Integer>, Integer> seen = new HashMap<>();
            Ring r = ring;
            for (int i = 0; i < 100000 && r.may(bowl); i++) {
                Integer before = seen.put(r.beans, i);
                if (before != null) {
                    return before > 200 ? -9 : what == 0 ? before : i - before;
                }
                r = r.moved(bowl);
            }
            return -9;
        }

        private int toEmpty(int bowl, int what) {
            for (int n = 0; n <= 5; n++) {
                if (n == 0 && ring.beans.get(bowl) == 0) {
                    return what == 0 ? 0 : -9;
                }
                for (int b = 0; n > 0 && b < bowls(); b++) {
                    if (ring.may(b) && canEmpty(ring.moved(b), bowl, n - 1)) {
                        return what == 0 ? n : b;
                    }
                }
            }
            return -9;
        }

        private static boolean canEmpty(Ring r, int bowl, int n) {
            if (n == 0) {
                return r.beans.get(bowl) == 0;
            }
            for (int b = 0; b < r.size(); b++) {
                if (r.may(b) && canEmpty(r.moved(b), bowl, n - 1)) {
                    return true;
                }
            }
            return false;
        }

        private int change() {
            int found = -9;
            int most = worthOf(ring, 2);
            for (int pair = 0; pair < 100; pair++) {
                int i = pair / 10;
                int j = pair % 10;
                if (i < j && j < bowls()) {
                    Ring r = ring.copy();
                    r.beans.set(i, ring.beans.get(j));
                    r.beans.set(j, ring.beans.get(i));
                    if (worthOf(r, 2) > most) {
                        most = worthOf(r, 2);
                        found = pair;
                    }
                }
            }
            return found;
        }

        private int fair() {
            for (int v = 1; v < 10; v++) {
                Ring r = ring.copy();
                final int beans = v;
                r.beans.replaceAll(any -> beans);
                if (worthOf(r, 2) == 0) {
                    return v;
                }
            }
            return -9;
        }

        private long ways(List<Integer> answers, int n) {
            long[] ways = new long[n + 1];
            ways[0] = 1;
            for (int b = 0; b < bowls(); b++) {
                long[] more = new long[n + 1];
                int from = ring.soundsFrom(b);
                for (int v = 0; v <= 20; v++) {
                    int sound = from > 0 && v >= from ? 1 : 0;
                    for (int k = 0; k + v <= n; k++) {
                        more[k + v] += answers.get(b) == 2 || answers.get(b) == sound ? ways[k] : 0;
                    }
                }
                ways = more;
            }
            return ways[n];
        }

        private int next(int n) {
            int found = -9;
            long most = 0;
            for (int b = 0; b < row.size(); b++) {
                if (row.get(b) == 2) {
                    List<Integer> no = new ArrayList<>(row);
                    List<Integer> yes = new ArrayList<>(row);
                    no.set(b, 0);
                    yes.set(b, 1);
                    long lesser = Math.min(ways(no, n), ways(yes, n));
                    if (found == -9 || lesser > most) {
                        found = b;
                        most = lesser;
                    }
                }
            }
            return found;
        }

        private Ring behindRow() {
            Ring r = ring;
            for (int b : row) {
                if (!r.may(b)) {
                    break;
                }
                r = r.moved(b);
            }
            return r;
        }

        private int lots(int n, int seed) {
            long z = seed;
            int together = 0;
            for (int i = 0; i < n; i++) {
                Ring r = ring.copy();
                for (int k = 0; k < 20; k++) {
                    z = (int) (z * 1664525L + 1013904223L);
                    int b = (int) ((z < 0 ? z + 2147483648L : z) >> 8) % bowls();
                    if (r.may(b)) {
                        r = r.moved(b);
                    } else {
                        r.turn = 1 - r.turn;
                    }
                }
                together += r.purse[ring.turn] - r.purse[1 - ring.turn];
            }
            return together;
        }

        private int count(int what) {
            if (what > 10 && what < 17) {
                return refused[what - 10];
            }
            int[] all = {bowls(), sum(ring), ring.purse[0], ring.purse[1], ring.turn, ring.moves, ring.fullness,
                ring.lent ? 1 : 0, row.size(), letters.length()};
            return what < 0 || what > 9 ? -9 : all[what];
        }
    }
}
