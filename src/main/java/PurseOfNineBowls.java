import java.util.Arrays;

/**
 * A purse of nine bowls: bowls of kinds in a ring, sown bean by bean by two who move in turn.
 * What each call answers is told in ../shared/DOC.md; README.md tells how this file is laid out.
 */
public final class PurseOfNineBowls {
    private static final int MOST_BOWLS = 9;
    private static final int MOST_PUT = 20;
    private static final int MOST_IN_BOWL = 99;
    private static final int MOST_FULLNESS = 9;
    private static final int MOST_IN_PURSE = 999;
    private static final int MOST_MOVES = 999;
    private static final int MOST_LETTERS = 96;
    private static final int MOST_LETTER = 255;
    private static final int MOST_AHEAD = 4;
    private static final int PRICED_AHEAD = 2;
    private static final int MOST_BACK = 200;
    private static final int MOST_TO_EMPTY = 5;
    private static final int MOST_LAID = 40;
    private static final int MOST_WAYS = 1000000000;
    private static final int MOST_ROW = 12;
    private static final int MOST_TOLD = 9;
    private static final int MOST_GAMES = 20;
    private static final int MOVES_OF_A_LOT = 20;
    private static final int ALL_BUT_SIGN = 0x7FFFFFFF;
    // The document bounds the way into a loop but not the loop: the longest met in
    // 320 million rings told by lot took half a million moves.
    private static final int MOST_STEPS = 4000000;

    private static final int NONE = -9;
    private static final int NOBODY = -1;
    private static final int OTHER = -2;
    private static final int STATE = -3;
    private static final int BELOW = -4;
    private static final int ROOM = -6;
    private static final int TOLD_FROM = 1000000000;
    private static final int UNKNOWN = 2;

    private final Table now = new Table();
    private final Table pictured = new Table();
    private boolean hasPicture = false;
    private final Table trial = new Table();
    private final Table second = new Table();
    private final Letters text = new Letters();
    private final Ahead ahead = new Ahead();
    private final Emptying emptying = new Emptying();
    private final Ways ways = new Ways();
    private final int[] told = new int[MOST_ROW];
    private int toldHeld = 0;
    private final int[] refused = new int[7];

    public PurseOfNineBowls() {
    }

    public int letter(int c) {
        if (c < 0) {
            return refuse(BELOW);
        }
        if (c > MOST_LETTER || !text.add(c)) {
            return refuse(ROOM);
        }
        return text.held;
    }

    public int game() {
        trial.copyFrom(now);
        int answer = text.playOn(trial);
        text.clear();
        if (answer >= 0) {
            now.copyFrom(trial);
        }
        return answer;
    }

    public int bowl(int bowl, int what) {
        if (!now.has(bowl)) {
            return refuse(NOBODY);
        }
        switch (what) {
            case 0: return now.kindOf(bowl);
            case 1: return now.beansOf(bowl);
            case 2: return now.soundsFrom(bowl);
            case 3: return now.takes(bowl) ? 1 : 0;
            default: return refuse(OTHER);
        }
    }

    public int put(int bowl, int v) {
        if (!now.has(bowl)) {
            return refuse(NOBODY);
        }
        if (v < 0) {
            return refuse(BELOW);
        }
        if (v > MOST_PUT) {
            return refuse(ROOM);
        }
        int before = now.beansOf(bowl);
        now.lay(bowl, v);
        return before;
    }

    public int set(int what, int v) {
        if (what < 0 || what > 2) {
            return refuse(OTHER);
        }
        if (v < (what == 0 ? 1 : 0)) {
            return refuse(BELOW);
        }
        if (v > (what == 0 ? MOST_FULLNESS : 1)) {
            return refuse(ROOM);
        }
        int before;
        if (what == 0) {
            before = now.fullness;
            now.fullness = v;
        } else if (what == 1) {
            before = now.lent;
            now.lent = v;
        } else {
            before = now.turn;
            now.turn = v;
        }
        return before;
    }

    public int move(int bowl) {
        if (!now.has(bowl)) {
            return refuse(NOBODY);
        }
        if (!now.canMove(bowl)) {
            return refuse(STATE);
        }
        if (now.moves >= MOST_MOVES) {
            return refuse(ROOM);
        }
        now.makeMove(bowl);
        return now.taken;
    }

    public int by(int bowl, int what) {
        if (!now.has(bowl)) {
            return refuse(NOBODY);
        }
        if (what < 0 || what > 4) {
            return refuse(OTHER);
        }
        if (!tryMove(bowl)) {
            return refuse(STATE);
        }
        switch (what) {
            case 0: return trial.hands;
            case 1: return trial.last;
            case 2: return trial.sown;
            case 3: return trial.taken;
            default: return trial.allBeans();
        }
    }

    public int behind(int bowl, int other) {
        if (!now.has(bowl) || !now.has(other)) {
            return refuse(NOBODY);
        }
        return tryMove(bowl) ? trial.beansOf(other) : refuse(STATE);
    }

    public int empties(int bowl) {
        if (!now.has(bowl)) {
            return refuse(NOBODY);
        }
        if (!tryMove(bowl)) {
            return refuse(STATE);
        }
        int bits = 0;
        for (int b = 0; b < trial.held; b++) {
            if (trial.beansOf(b) == 0) {
                bits |= 1 << b;
            }
        }
        return bits;
    }

    public int longest() {
        int found = NONE;
        int most = 0;
        for (int b = 0; b < now.held; b++) {
            if (tryMove(b) && trial.sown > most) {
                most = trial.sown;
                found = b;
            }
        }
        return found;
    }

    public int best(int n) {
        if (n < 1) {
            return refuse(BELOW);
        }
        if (n > MOST_AHEAD) {
            return refuse(ROOM);
        }
        return ahead.bowlFor(now, n);
    }

    public int worth(int n) {
        if (n < 1) {
            return refuseFar(BELOW);
        }
        if (n > MOST_AHEAD) {
            return refuseFar(ROOM);
        }
        return ahead.gainFor(now, n);
    }

    public int lost() {
        for (int b = 0; b < now.held; b++) {
            if (now.canMove(b)) {
                return 0;
            }
        }
        return 1;
    }

    public int back(int bowl) {
        if (!now.has(bowl)) {
            return refuse(NOBODY);
        }
        trial.copyFrom(now);
        for (int step = 1; step <= MOST_BACK && trial.canMove(bowl); step++) {
            trial.makeMove(bowl);
            if (trial.sameBeans(now)) {
                return step;
            }
        }
        return NONE;
    }

    public int loop(int bowl, int what) {
        if (!now.has(bowl)) {
            return refuse(NOBODY);
        }
        if (what < 0 || what > 1) {
            return refuse(OTHER);
        }
        int round = roundOf(bowl);
        if (round == NONE) {
            return NONE;
        }
        int entry = entryOf(bowl, round);
        return what == 0 || entry == NONE ? entry : round;
    }

    public int toEmpty(int bowl, int what) {
        if (!now.has(bowl)) {
            return refuse(NOBODY);
        }
        if (what < 0 || what > 1) {
            return refuse(OTHER);
        }
        emptying.seek(now, bowl);
        return what == 0 ? emptying.moves : emptying.first;
    }

    public int price(int bowl) {
        if (!now.has(bowl)) {
            return refuseFar(NOBODY);
        }
        return worthChange(bowl, 1);
    }

    public int sold(int bowl) {
        if (!now.has(bowl)) {
            return refuseFar(NOBODY);
        }
        if (now.beansOf(bowl) == 0) {
            return refuseFar(STATE);
        }
        return worthChange(bowl, -1);
    }

    public int change() {
        int found = NONE;
        int most = ahead.gainFor(now, PRICED_AHEAD);
        for (int lesser = 0; lesser < now.held; lesser++) {
            for (int other = lesser + 1; other < now.held; other++) {
                trial.copyFrom(now);
                trial.swapBeans(lesser, other);
                int gain = ahead.gainFor(trial, PRICED_AHEAD);
                if (gain > most) {
                    most = gain;
                    found = 10 * lesser + other;
                }
            }
        }
        return found;
    }

    public int fair() {
        for (int v = 1; v <= 9; v++) {
            trial.copyFrom(now);
            for (int b = 0; b < trial.held; b++) {
                trial.lay(b, v);
            }
            if (ahead.gainFor(trial, PRICED_AHEAD) == 0) {
                return v;
            }
        }
        return NONE;
    }

    public int sounds(int n) {
        int refusal = refusalToLay(n);
        if (refusal != 0) {
            return refuse(refusal);
        }
        return (int) Math.min(ways.toLay(now, told, n), MOST_WAYS);
    }

    public int next(int n) {
        int refusal = refusalToLay(n);
        return refusal != 0 ? refuse(refusal) : ways.bowlToAsk(now, told, n);
    }

    public int played(int who) {
        if (who < 0 || who > 1) {
            return refuse(OTHER);
        }
        playRow();
        return trial.purseOf(who);
    }

    public int row(int v) {
        if (v < 0) {
            return refuse(BELOW);
        }
        if (v > MOST_TOLD || toldHeld < 0 || toldHeld >= told.length) {
            return refuse(ROOM);
        }
        told[toldHeld] = v;
        toldHeld++;
        return toldHeld;
    }

    public int judge() {
        int made = playRow();
        int answer = made < toldHeld ? made : NONE;
        toldHeld = 0;
        return answer;
    }

    public int lots(int n, int z) {
        if (n < 1) {
            return refuseFar(BELOW);
        }
        if (n > MOST_GAMES) {
            return refuseFar(ROOM);
        }
        if (now.held < 2) {
            return refuseFar(STATE);
        }
        int drawn = z;
        int together = 0;
        for (int game = 0; game < n; game++) {
            trial.copyFrom(now);
            drawn = playLot(drawn);
            together += trial.purseOf(now.turn) - trial.purseOf(1 - now.turn);
        }
        return together;
    }

    public int image() {
        pictured.copyFrom(now);
        hasPicture = true;
        return now.moves;
    }

    public int on() {
        if (!hasPicture) {
            return refuse(STATE);
        }
        now.copyFrom(pictured);
        return now.moves;
    }

    public int count(int what) {
        switch (what) {
            case 0: return now.held;
            case 1: return now.allBeans();
            case 2: return now.purseOf(0);
            case 3: return now.purseOf(1);
            case 4: return now.turn;
            case 5: return now.moves;
            case 6: return now.fullness;
            case 7: return now.lent;
            case 8: return toldHeld;
            case 9: return text.held;
            default: break;
        }
        return what >= 11 && what <= 16 ? refused[what - 10] : NONE;
    }

    private int refuse(int number) {
        int place = -number;
        if (place >= 0 && place < refused.length) {
            refused[place]++;
        }
        return number;
    }

    // Some calls answer below 0 without refusing, so their refusals are told far above.
    private int refuseFar(int number) {
        return TOLD_FROM - refuse(number);
    }

    /** Makes a move in mind, in the trial table. */
    private boolean tryMove(int bowl) {
        if (!now.canMove(bowl)) {
            return false;
        }
        trial.copyFrom(now);
        trial.makeMove(bowl);
        return true;
    }

    /** How many moves the loop has into which sowing from one bowl runs; NONE if that ends. */
    private int roundOf(int bowl) {
        // Brent's way: the kept table is taken anew behind 1, 2, 4, 8 .. moves.
        trial.copyFrom(now);
        second.copyFrom(now);
        int until = 1;
        int since = 0;
        for (int step = 0; step < MOST_STEPS && trial.canMove(bowl); step++) {
            trial.makeMove(bowl);
            since++;
            if (trial.sameBeans(second)) {
                return since;
            }
            if (since == until) {
                second.copyFrom(trial);
                until *= 2;
                since = 0;
            }
        }
        return NONE;
    }

    /** Behind how many moves the loop begins that has so many moves; NONE if it is too far. */
    private int entryOf(int bowl, int round) {
        trial.copyFrom(now);
        second.copyFrom(now);
        for (int step = 0; step < round; step++) {
            trial.makeMove(bowl);
        }
        for (int step = 0; step <= MOST_BACK; step++) {
            if (trial.sameBeans(second)) {
                return step;
            }
            trial.makeMove(bowl);
            second.makeMove(bowl);
        }
        return NONE;
    }

    /** By how much worth grows if a bowl has so many beans more. */
    private int worthChange(int bowl, int more) {
        trial.copyFrom(now);
        trial.lay(bowl, now.beansOf(bowl) + more);
        return ahead.gainFor(trial, PRICED_AHEAD) - ahead.gainFor(now, PRICED_AHEAD);
    }

    /** The number by which sounds and next refuse n beans; 0 if they do not. */
    private int refusalToLay(int n) {
        if (n < 0) {
            return BELOW;
        }
        if (n > MOST_LAID) {
            return ROOM;
        }
        if (toldHeld != now.held) {
            return STATE;
        }
        for (int i = 0; i < toldHeld && i < told.length; i++) {
            if (told[i] > UNKNOWN) {
                return STATE;
            }
        }
        return 0;
    }

    /** Plays the row in the trial table: how many of its moves can be made till one can not. */
    private int playRow() {
        trial.copyFrom(now);
        int made = 0;
        while (made < toldHeld && made < told.length && trial.canMove(told[made])) {
            trial.makeMove(told[made]);
            made++;
        }
        return made;
    }

    /** Plays one game by lot in the trial table: the seed behind it. */
    private int playLot(int seed) {
        int z = seed;
        for (int i = 0; i < MOVES_OF_A_LOT && trial.held > 0; i++) {
            z = z * 1664525 + 1013904223;
            int bowl = (z & ALL_BUT_SIGN) / 256 % trial.held;
            if (trial.canMove(bowl)) {
                trial.makeMove(bowl);
            } else {
                trial.turn = 1 - trial.turn;
            }
        }
        return z;
    }

    /** All that an image holds, and what the last sowing did. */
    private static final class Table {
        private static final int DEFAULT_FULLNESS = 4;
        private static final int MOST_HANDS = 60;
        private static final int QUIET_FROM = 12;
        // A hand has 100 beans at most, and behind each at most 9 bowls are passed over.
        private static final int MOST_PLACES = 1000;
        private static final int PLAIN = 0;
        private static final int SHALLOW = 1;
        private static final int DEAF = 2;
        private static final int DEEP = 3;
        private static final int NARROW = 4;

        private final int[] kinds = new int[MOST_BOWLS];
        private final int[] beans = new int[MOST_BOWLS];
        private final int[] purses = new int[2];
        private int held = 0;
        private int fullness = DEFAULT_FULLNESS;
        private int lent = 0;
        private int turn = 0;
        private int moves = 0;
        private int hands = 0;
        private int last = NONE;
        private int sown = 0;
        private int taken = 0;

        void copyFrom(Table other) {
            if (other == null) {
                return;
            }
            System.arraycopy(other.kinds, 0, kinds, 0, MOST_BOWLS);
            System.arraycopy(other.beans, 0, beans, 0, MOST_BOWLS);
            System.arraycopy(other.purses, 0, purses, 0, 2);
            held = other.held;
            fullness = other.fullness;
            lent = other.lent;
            turn = other.turn;
            moves = other.moves;
        }

        boolean has(int bowl) {
            return bowl >= 0 && bowl < held && bowl < MOST_BOWLS;
        }

        boolean addBowl(int kind, int v) {
            if (held < 0 || held >= MOST_BOWLS) {
                return false;
            }
            kinds[held] = kind;
            beans[held] = v;
            held++;
            return true;
        }

        int kindOf(int bowl) {
            return has(bowl) ? kinds[bowl] : NONE;
        }

        int beansOf(int bowl) {
            return has(bowl) ? beans[bowl] : 0;
        }

        int purseOf(int who) {
            return who >= 0 && who < purses.length ? purses[who] : 0;
        }

        void lay(int bowl, int v) {
            if (has(bowl)) {
                beans[bowl] = v;
            }
        }

        void swapBeans(int one, int other) {
            int kept = beansOf(one);
            lay(one, beansOf(other));
            lay(other, kept);
        }

        int allBeans() {
            int all = 0;
            for (int b = 0; b < held; b++) {
                all += beansOf(b);
            }
            return all;
        }

        boolean sameBeans(Table other) {
            for (int b = 0; b < held; b++) {
                if (beansOf(b) != other.beansOf(b)) {
                    return false;
                }
            }
            return true;
        }

        /** From how many beans on a bowl sounds; NONE if it never does. */
        int soundsFrom(int bowl) {
            if (!has(bowl)) {
                return NONE;
            }
            switch (kinds[bowl]) {
                case PLAIN: return fullness;
                case SHALLOW:
                case NARROW: return (fullness + 1) / 2;
                case DEAF: return NONE;
                case DEEP: return 2 * fullness;
                default: return QUIET_FROM;
            }
        }

        boolean isFull(int bowl) {
            int from = soundsFrom(bowl);
            return from != NONE && beansOf(bowl) >= from;
        }

        boolean takes(int bowl) {
            if (!has(bowl) || beans[bowl] >= MOST_IN_BOWL) {
                return false;
            }
            return kinds[bowl] != NARROW || beans[bowl] < fullness;
        }

        boolean canMove(int bowl) {
            return held >= 2 && has(bowl) && beans[bowl] > 0;
        }

        void makeMove(int bowl) {
            hands = 0;
            last = NONE;
            sown = 0;
            int from = bowl;
            boolean goesOn = canMove(bowl);
            while (goesOn && hands < MOST_HANDS) {
                hands++;
                goesOn = sowHand(from) && isFull(last);
                from = last;
            }
            taken = takeSingle() ? 1 : 0;
            turn = 1 - turn;
            moves++;
        }

        /** Sows all beans of a bowl: whether some bean of them was sown. */
        private boolean sowHand(int from) {
            int hand = beansOf(from);
            int before = sown;
            int passed = 0;
            int place = from;
            lay(from, 0);
            for (int i = 0; i < MOST_PLACES && hand > 0 && passed < held; i++) {
                place = rightOrLeftOf(place);
                if (takes(place)) {
                    beans[place]++;
                    hand--;
                    sown++;
                    last = place;
                    passed = 0;
                } else {
                    passed++;
                }
            }
            lay(from, beansOf(from) + hand);
            return sown > before;
        }

        private int rightOrLeftOf(int bowl) {
            if (lent == 1) {
                return bowl <= 0 ? held - 1 : bowl - 1;
            }
            return bowl + 1 >= held ? 0 : bowl + 1;
        }

        private boolean takeSingle() {
            if (beansOf(last) != 1 || turn < 0 || turn >= purses.length || purses[turn] >= MOST_IN_PURSE) {
                return false;
            }
            lay(last, 0);
            purses[turn]++;
            return true;
        }

        /** The beans of all bowls in one number: seven bits hold the 99 of a bowl. */
        long beansInOne() {
            long all = 0;
            for (int b = held - 1; b >= 0; b--) {
                all = all << 7 | beansOf(b);
            }
            return all;
        }

        void layFrom(long inOne) {
            long rest = inOne;
            for (int b = 0; b < held; b++) {
                lay(b, (int) (rest & 127));
                rest >>>= 7;
            }
        }
    }

    /** The letters of a game that is being told. */
    private static final class Letters {
        private static final int END = -1;
        private static final int FAULT_OF_FORM = -1000;
        private static final int FAULT_OF_SENSE = -2000;

        private final int[] letters = new int[MOST_LETTERS];
        private int held = 0;

        boolean add(int c) {
            if (held < 0 || held >= MOST_LETTERS) {
                return false;
            }
            letters[held] = c;
            held++;
            return true;
        }

        void clear() {
            held = 0;
        }

        /** Plays the game on a table: how many statements, or the fault (the table is spoilt then). */
        int playOn(Table table) {
            int stuck = stuckAt();
            if (stuck != NONE) {
                return FAULT_OF_FORM - stuck;
            }
            int start = 0;
            int statements = 0;
            while (start < held && statements < MOST_LETTERS) {
                if (!apply(start, table)) {
                    return FAULT_OF_SENSE - start;
                }
                start = behindStatement(start);
                statements++;
            }
            return statements;
        }

        /** The place of the first letter with which no game can go on; NONE if it is a game. */
        private int stuckAt() {
            int start = 0;
            // An empty text lacks its first statement, so one is looked for in any text.
            for (int i = 0; i == 0 || i < MOST_LETTERS && start < held; i++) {
                int stuck = stuckIn(start);
                if (stuck != NONE) {
                    return stuck;
                }
                start = behindStatement(start);
            }
            return NONE;
        }

        /** Where the statement that begins there breaks off; NONE if it is whole. */
        private int stuckIn(int start) {
            int head = letterAt(start);
            if (mostDigits(head) == 0) {
                return start;
            }
            int place = start + 1;
            if (head == 'b') {
                if (kindFor(letterAt(place)) == NONE) {
                    return place;
                }
                place++;
            }
            int digits = digitsFrom(place, mostDigits(head));
            place += digits;
            return digits < leastDigits(head) || letterAt(place) != ';' ? place : NONE;
        }

        private int letterAt(int place) {
            return place >= 0 && place < held && place < MOST_LETTERS ? letters[place] : END;
        }

        private int digitAt(int place) {
            int c = letterAt(place);
            return c >= '0' && c <= '9' ? c - '0' : NONE;
        }

        private int digitsFrom(int place, int most) {
            int digits = 0;
            while (digits < most && digitAt(place + digits) != NONE) {
                digits++;
            }
            return digits;
        }

        private int behindStatement(int start) {
            int place = start;
            while (place < held && letterAt(place) != ';') {
                place++;
            }
            return place + 1;
        }

        /** How many digits a statement has at most; 0 if none begins so. */
        private static int mostDigits(int head) {
            switch (head) {
                case 'b':
                case 'c': return 2;
                case 'f':
                case 'l':
                case 't': return 1;
                case 's': return 9;
                default: return 0;
            }
        }

        private static int leastDigits(int head) {
            return head == 's' ? 1 : mostDigits(head);
        }

        private static int kindFor(int c) {
            switch (c) {
                case 'o': return 0;
                case 'h': return 1;
                case 'd': return 2;
                case 'w': return 3;
                case 'n': return 4;
                case 'q': return 5;
                default: return NONE;
            }
        }

        /** Does what a statement tells: whether it is as it must be. */
        private boolean apply(int start, Table table) {
            int one = digitAt(start + 1);
            int other = digitAt(start + 2);
            switch (letterAt(start)) {
                case 'b': return addBowl(start, table);
                case 'f':
                    table.fullness = one;
                    return one >= 1;
                case 'l':
                    table.lent = one;
                    return one <= 1;
                case 't':
                    table.turn = one;
                    return one <= 1;
                case 'c':
                    table.swapBeans(one, other);
                    return one != other && table.has(one) && table.has(other);
                default: return makeMoves(start + 1, table);
            }
        }

        private boolean addBowl(int start, Table table) {
            int v = 10 * digitAt(start + 2) + digitAt(start + 3);
            return v <= MOST_PUT && table.addBowl(kindFor(letterAt(start + 1)), v);
        }

        private boolean makeMoves(int first, Table table) {
            for (int place = first; place < held && digitAt(place) != NONE; place++) {
                if (!table.canMove(digitAt(place)) || table.moves >= MOST_MOVES) {
                    return false;
                }
                table.makeMove(digitAt(place));
            }
            return true;
        }
    }

    /** Looks ahead by moves that are the best of both. */
    private static final class Ahead {
        private final Table[] line = new Table[MOST_AHEAD + 1];
        private final int[] chosen = new int[MOST_AHEAD + 1];

        Ahead() {
            for (int i = 0; i < line.length; i++) {
                line[i] = new Table();
            }
        }

        /** By how much the purse of the one in turn gains on the other's in n moves. */
        int gainFor(Table from, int n) {
            line[0].copyFrom(from);
            return gainOf(line, chosen, 0, n, -n, n);
        }

        int bowlFor(Table from, int n) {
            gainFor(from, n);
            return chosen[0];
        }

        /**
         * The gain in n moves from a table of the line; where it is not above low or not below
         * high, any number there does for who asks, so that bowls behind it need no look.
         */
        private static int gainOf(Table[] line, int[] chosen, int at, int n, int low, int high) {
            if (n <= 0 || at < 0 || at + 1 >= line.length || at >= chosen.length) {
                return 0;
            }
            Table from = line[at];
            Table to = line[at + 1];
            // A move brings one bean at most, and each second move is the own one.
            int enough = Math.min(high, (n + 1) / 2);
            int most = low - 1;
            chosen[at] = NONE;
            for (int b = 0; b < from.held && (chosen[at] == NONE || most < enough); b++) {
                if (from.canMove(b)) {
                    to.copyFrom(from);
                    to.makeMove(b);
                    int taken = to.taken;
                    int gain = taken - gainOf(line, chosen, at + 1, n - 1, taken - high, taken - most);
                    if (gain > most || chosen[at] == NONE) {
                        most = gain;
                        chosen[at] = b;
                    }
                }
            }
            return chosen[at] == NONE ? 0 : most;
        }
    }

    /** Seeks the fewest moves that empty a bowl, level by level, each ring of beans looked at once. */
    private static final class Emptying {
        // 1 + 9 + 81 + 729 + 6561: all that four moves can lead to.
        private static final int MOST_RINGS = 7381;
        private static final int SLOT_BITS = 14;
        private static final int SLOTS = 1 << SLOT_BITS;

        private final long[] rings = new long[MOST_RINGS];
        private final int[] firsts = new int[MOST_RINGS];
        private final int[] slots = new int[SLOTS];
        private final Table from = new Table();
        private final Table to = new Table();
        private int held = 0;
        private int moves = NONE;
        private int first = NONE;

        void seek(Table start, int bowl) {
            first = NONE;
            moves = start.beansOf(bowl) == 0 ? 0 : NONE;
            if (moves == 0) {
                return;
            }
            held = 0;
            Arrays.fill(slots, 0);
            from.copyFrom(start);
            keep(from.beansInOne(), NONE);
            int level = 0;
            for (int depth = 1; depth <= MOST_TO_EMPTY && moves == NONE; depth++) {
                int end = held;
                for (int i = level; i < end && moves == NONE; i++) {
                    goOnFrom(i, bowl, depth);
                }
                level = end;
            }
        }

        /** Makes all moves from a kept ring, the lesser bowls first, so that the least first move wins. */
        private void goOnFrom(int i, int bowl, int depth) {
            if (i < 0 || i >= MOST_RINGS) {
                return;
            }
            from.layFrom(rings[i]);
            for (int b = 0; b < from.held && moves == NONE; b++) {
                if (from.canMove(b)) {
                    to.copyFrom(from);
                    to.makeMove(b);
                    int firstMove = depth == 1 ? b : firsts[i];
                    if (to.beansOf(bowl) == 0) {
                        moves = depth;
                        first = firstMove;
                    } else if (depth < MOST_TO_EMPTY) {
                        keep(to.beansInOne(), firstMove);
                    }
                }
            }
        }

        /** Keeps a ring if it is new; a slot has its place and 1 more, 0 when it is free. */
        private void keep(long ring, int firstMove) {
            int slot = (int) (ring * 0x9E3779B97F4A7C15L >>> 64 - SLOT_BITS);
            for (int i = 0; i < SLOTS && held < MOST_RINGS; i++) {
                int place = slots[slot & SLOTS - 1] - 1;
                if (place < 0 || place >= MOST_RINGS) {
                    rings[held] = ring;
                    firsts[held] = firstMove;
                    held++;
                    slots[slot & SLOTS - 1] = held;
                    return;
                }
                if (rings[place] == ring) {
                    return;
                }
                slot++;
            }
        }
    }

    /** Counts in how many ways beans can lie, as sounds tell. */
    private static final class Ways {
        private final long[] ways = new long[MOST_LAID + 1];
        private final int[] asked = new int[MOST_ROW];

        long toLay(Table table, int[] answers, int n) {
            if (n < 0 || n > MOST_LAID) {
                return 0;
            }
            Arrays.fill(ways, 0);
            ways[0] = 1;
            for (int b = 0; b < table.held && b < answers.length; b++) {
                int from = table.soundsFrom(b) == NONE ? MOST_PUT + 1 : table.soundsFrom(b);
                int least = answers[b] == 1 ? from : 0;
                int most = answers[b] == 0 ? Math.min(from - 1, MOST_PUT) : MOST_PUT;
                layOneMore(least, most);
            }
            return ways[n];
        }

        private void layOneMore(int least, int most) {
            // From the most beans down, so that what is read still lacks this bowl.
            for (int all = MOST_LAID; all >= 0; all--) {
                long sum = 0;
                for (int v = Math.max(least, 0); v <= most && v <= all; v++) {
                    sum += ways[all - v];
                }
                ways[all] = sum;
            }
        }

        /** The unknown bowl whose rarer answer leaves the most ways. */
        int bowlToAsk(Table table, int[] answers, int n) {
            int found = NONE;
            long most = -1;
            System.arraycopy(answers, 0, asked, 0, Math.min(answers.length, MOST_ROW));
            for (int b = 0; b < table.held && b < MOST_ROW; b++) {
                if (asked[b] == UNKNOWN) {
                    asked[b] = 0;
                    long silent = toLay(table, asked, n);
                    asked[b] = 1;
                    long lesser = Math.min(silent, toLay(table, asked, n));
                    asked[b] = UNKNOWN;
                    if (lesser > most) {
                        most = lesser;
                        found = b;
                    }
                }
            }
            return found;
        }
    }
}
