import java.io.IOException;
import java.nio.file.Files;
import java.nio.file.Path;
import java.util.ArrayList;
import java.util.Arrays;
import java.util.List;
import java.util.function.Supplier;
import java.util.function.ToIntFunction;

/**
 * The edges of the document, sentence by sentence in its order: each test quotes the words that it
 * tests. A quote that does not stand in the document is a fault, and so are words of its Terms and
 * Promises that no test quotes.
 */
public final class EdgesTest {
    private static final int[] FAR_BELOW = {-1, -2, -9, -1000, Integer.MIN_VALUE + 1, Integer.MIN_VALUE};
    private static final int[] FAR_ABOVE = {256, 1000, 1000000000, Integer.MAX_VALUE - 1, Integer.MAX_VALUE};
    private static final String THREE = "bd02;bd00;bd00;";
    private static final String ONE = "bd02;";
    private static final int NOBODY = 11;
    private static final int OTHER = 12;
    private static final int STATE = 13;
    private static final int BELOW = 14;
    private static final int ROOM = 16;

    private static String document = "";
    private static boolean[] quoted = new boolean[0];
    private static int lookFrom = 0;
    private static String quote = "";
    private static int checked = 0;
    private static int wrong = 0;

    public static void main(String[] args) throws IOException {
        readDocument();
        theTable();
        theGame();
        theFaults();
        theKinds();
        theSowing();
        theMove();
        inMind();
        ahead();
        comesBack();
        toEmpty();
        prices();
        soundsAndNext();
        judgedAndLots();
        imageAndRefusals();
        firstPromises();
        middlePromises();
        lastPromises();
        movesAndPursesAtTheirMost();
        askedBehindOthers();
        nothingUnquoted();
        System.out.println(wrong == 0 ? checked + " answers at edges are as due" : wrong + " are not as due");
        if (wrong != 0) {
            System.exit(1);
        }
    }

    private static void readDocument() throws IOException {
        Path path = Path.of(System.getProperty("project.root", "."), "../shared/DOC.md");
        if (!Files.isReadable(path)) {
            System.out.println("no " + path + ": the answers are tested, but not the quotes");
            return;
        }
        String text = Files.readString(path);
        document = text.substring(text.indexOf("BOWLS 0 .."), text.indexOf("## Not promised")).replaceAll("\\s+", " ");
        quoted = new boolean[document.length()];
    }

    /** The words that the checks behind it test. */
    private static void says(String words) {
        quote = words;
        if (document.isEmpty()) {
            return;
        }
        int at = document.indexOf(words, lookFrom);
        if (at < 0) {
            due("the document says so", 0, 1);
            return;
        }
        lookFrom = at + words.length();
        Arrays.fill(quoted, at, lookFrom, true);
    }

    private static void nothingUnquoted() {
        StringBuilder rest = new StringBuilder();
        for (int i = 0; i < quoted.length; i++) {
            rest.append(quoted[i] ? '|' : document.charAt(i));
        }
        // Headings, marks of the text and the signatures say nothing of edges.
        String bare = rest.toString().replaceAll("## Promise \\d+: \\w+( \\w+)*", "").replaceAll("`[^`]*`: ?", "")
            .replaceAll("==== II\\. In mind:|``` ?(text)?|THE IMAGE:|REFUSALS \\(", "").replaceAll("[|.;:, ]+", " ").trim();
        quote = bare;
        due("words that no test quotes", bare.length(), 0);
    }

    private static void due(String what, int got, int want) {
        checked++;
        if (got != want) {
            wrong++;
            System.out.println("\"" + quote + "\" " + what + ": answered " + got + ", due is " + want);
        }
    }

    private static int game(PurseOfNineBowls x, String text) {
        for (int i = 0; i < text.length(); i++) {
            x.letter(text.charAt(i));
        }
        return x.game();
    }

    private static PurseOfNineBowls told(String text) {
        PurseOfNineBowls x = new PurseOfNineBowls();
        int answer = game(x, text);
        int statements = 0;
        for (int i = 0; i < text.length(); i++) {
            statements += text.charAt(i) == ';' ? 1 : 0;
        }
        if (answer != statements) {
            due("told " + text, answer, statements);
        }
        return x;
    }

    private static String times(String text, int many) {
        StringBuilder all = new StringBuilder();
        for (int i = 0; i < many; i++) {
            all.append(text);
        }
        return all.toString();
    }

    private static void fault(String text, int want) {
        PurseOfNineBowls x = new PurseOfNineBowls();
        due(text, game(x, text), want);
        due("letters behind " + text, x.count(9), 0);
        due("bowls behind " + text, x.count(0), 0);
    }

    private static void beans(String what, PurseOfNineBowls x, int... want) {
        due(what + ": bowls", x.count(0), want.length);
        for (int b = 0; b < want.length; b++) {
            due(what + ": bowl " + b, x.bowl(b, 1), want[b]);
        }
    }

    private static void row(PurseOfNineBowls x, int... values) {
        x.judge();
        for (int v : values) {
            x.row(v);
        }
    }

    /** All that can be seen without changing it, but the refusals. */
    private static List<Integer> seen(PurseOfNineBowls x) {
        List<Integer> all = new ArrayList<>();
        for (int what = 0; what <= 10; what++) {
            all.add(x.count(what));
        }
        for (int b = 0; b < x.count(0); b++) {
            for (int what = 0; what <= 3; what++) {
                all.add(x.bowl(b, what));
            }
        }
        for (int who = 0; who <= 1; who++) {
            all.add(x.played(who));
        }
        return all;
    }

    /** A call that is refused: its number, one refusal more of this kind, and nothing else changed. */
    private static void refused(String what, Supplier<PurseOfNineBowls> made, int kind,
            ToIntFunction<PurseOfNineBowls> call) {
        PurseOfNineBowls x = made.get();
        List<Integer> before = seen(x);
        int[] counts = new int[7];
        for (int i = 1; i <= 6; i++) {
            counts[i] = x.count(10 + i);
        }
        boolean far = what.startsWith("worth") || what.startsWith("price") || what.startsWith("sold")
            || what.startsWith("lots");
        int number = 10 - kind;
        due(what, call.applyAsInt(x), far ? 1000000000 - number : number);
        due(what + " changes nothing", before.equals(seen(x)) ? 1 : 0, 1);
        for (int i = 1; i <= 6; i++) {
            due(what + ", refusals -" + i, x.count(10 + i) - counts[i], 10 + i == kind ? 1 : 0);
        }
    }

    private static void nobody(String what, String text, int bowls, Call call) {
        for (int bowl = bowls; bowl <= 10; bowl++) {
            int above = bowl;
            refused(what + " of " + above, () -> told(text), NOBODY, x -> call.of(x, above));
        }
        all(what + " of", text, NOBODY, FAR_BELOW, call);
        all(what + " of", text, NOBODY, FAR_ABOVE, call);
    }

    private static void others(String what, String text, int greatest, Call call) {
        refused(what + ", what " + (greatest + 1), () -> told(text), OTHER, x -> call.of(x, greatest + 1));
        all(what + ", what", text, OTHER, FAR_BELOW, call);
        all(what + ", what", text, OTHER, FAR_ABOVE, call);
    }

    private static void range(String what, String text, int least, int greatest, Call call) {
        refused(what + " of " + (least - 1), () -> told(text), BELOW, x -> call.of(x, least - 1));
        refused(what + " of " + (greatest + 1), () -> told(text), ROOM, x -> call.of(x, greatest + 1));
        all(what + " of", text, BELOW, FAR_BELOW, call);
        all(what + " of", text, ROOM, FAR_ABOVE, call);
    }

    private static void all(String what, String text, int kind, int[] values, Call call) {
        for (int v : values) {
            refused(what + " " + v, () -> told(text), kind, x -> call.of(x, v));
        }
    }

    /** What a call answers to one number. */
    private interface Call {
        int of(PurseOfNineBowls x, int v);
    }

    private static void theTable() {
        says("BOWLS 0 .. as they come (9 at most), in a ring: KIND, ");
        PurseOfNineBowls nine = new PurseOfNineBowls();
        due("none at first", nine.count(0), 0);
        due("nine", game(nine, times("bq00;", 9)), 9);
        due("nine there", nine.count(0), 9);
        due("the last", nine.bowl(8, 0), 5);
        due("a tenth", game(nine, "bo00;"), -2000);
        due("nine still", nine.count(0), 9);
        fault(times("bo00;", 10), -2045);
        PurseOfNineBowls eight = told(times("bo00;", 8));
        due("two more to eight", game(eight, "bo00;bo00;"), -2005);
        due("eight still", eight.count(0), 8);
        due("the ninth", game(eight, "bo00;"), 1);
        says("BEANS (0 .. 20). ");
        beans("least and greatest", told("bo00;bo20;"), 0, 20);
        fault("bo21;", -2000);
        fault("bo30;", -2000);
        fault("bo99;", -2000);
        says("FULLNESS (1 .. 9: 4 at first). ");
        PurseOfNineBowls x = new PurseOfNineBowls();
        due("at first", x.count(6), 4);
        due("greatest", game(x, "f9;") * 10 + x.count(6), 19);
        due("least", game(x, "f1;") * 10 + x.count(6), 11);
        due("below", game(x, "f0;"), -2000);
        due("stays", x.count(6), 1);
        says("LENT (0, 1; 0 at first). ");
        due("at first", x.count(7), 0);
        due("1", game(x, "l1;") * 10 + x.count(7), 11);
        due("above", game(x, "l2;"), -2000);
        due("far above", game(x, "l9;"), -2000);
        due("stays", x.count(7), 1);
        due("turn as before", x.count(4), 0);
        due("0", game(x, "l0;") * 10 + x.count(7), 10);
        says("PURSES of two (0 .. 999; 0 at first). ");
        due("0 at first", x.count(2), 0);
        due("1 at first", x.count(3), 0);
        says("TURN (0, 1; 0 at first). ");
        due("at first", x.count(4), 0);
        due("1", game(x, "t1;") * 10 + x.count(4), 11);
        due("above", game(x, "t2;"), -2000);
        due("far above", game(x, "t9;"), -2000);
        due("stays", x.count(4), 1);
        due("Lent as before", x.count(7), 0);
        due("0", game(x, "t0;") * 10 + x.count(4), 10);
        says("MOVES (0 .. 999; 0 at first).");
        due("at first", x.count(5), 0);
    }

    private static void theGame() {
        says("A GAME is told in letters, one by one (96 at most): ");
        PurseOfNineBowls x = new PurseOfNineBowls();
        for (int i = 1; i <= 96; i++) {
            due("letter " + i, x.letter("t1;".charAt((i - 1) % 3)), i);
        }
        due("letter 97", x.letter(';'), -6);
        due("96 letters", x.game(), 32);
        due("room again", x.letter('t'), 1);
        says("STATEMENTS, each with \";\" behind: ");
        fault("t1", -1002);
        fault("t1t1;", -1002);
        fault("t1:", -1002);
        fault("t1;t1", -1005);
        fault("t1;;", -1003);
        fault(";", -1000);
        says("\"b\" a letter of a KIND, BEANS (2 digits): a BOWL more; ");
        fault("b", -1001);
        fault("bz00;", -1001);
        fault("bO00;", -1001);
        fault("b00;", -1001);
        fault("bo", -1002);
        fault("bo;", -1002);
        fault("bo/0;", -1002);
        fault("bo:0;", -1002);
        fault("bo0", -1003);
        fault("bo0;", -1003);
        fault("bo0/;", -1003);
        fault("bo0:;", -1003);
        fault("bo00", -1004);
        fault("bo000;", -1004);
        says("\"f\" FULLNESS (a digit); ");
        fault("f", -1001);
        fault("f;", -1001);
        fault("f10;", -1002);
        says("\"l\" LENT (a digit); ");
        fault("l", -1001);
        fault("l;", -1001);
        fault("l10;", -1002);
        says("\"c\" two BOWLS (a digit each) change BEANS; ");
        fault("c", -1001);
        fault("c;", -1001);
        fault("c0", -1002);
        fault("c0;", -1002);
        fault("c012;", -1003);
        PurseOfNineBowls c = told("bn01;" + times("bo00;", 7) + "bq20;c08;");
        due("the first and the last", c.bowl(0, 1) * 100 + c.bowl(8, 1), 2001);
        due("kinds stay", c.bowl(0, 0) * 10 + c.bowl(8, 0), 45);
        due("back, told the other way", game(c, "c80;") * 100 + c.bowl(8, 1), 120);
        says("\"t\" TURN (a digit); ");
        fault("t", -1001);
        fault("t;", -1001);
        fault("t11;", -1002);
        says("\"s\" BOWLS (digits, 1 to 9 of them): MOVES of those whose TURN it is, one behind the other. ");
        movesTold();
        says("At least one STATEMENT. ");
        fault("", -1000);
    }

    private static void movesTold() {
        fault("s", -1001);
        fault("s;", -1001);
        fault("s0", -1002);
        fault("s000000000;", -2000);
        fault("s0000000000;", -1010);
        fault("s0000000000", -1010);
        PurseOfNineBowls nine = told("bd20;bd20;s010101010;");
        due("nine moves", nine.count(5), 9);
        due("the other's turn behind nine", nine.count(4), 1);
        due("one move", game(nine, "s0;") * 100 + nine.count(5), 110);
        // 0 gives its bean to 1, who is 1's; then 1 gives what it got: one behind the other.
        PurseOfNineBowls x = told("t1;bo02;bo00;bo00;bo00;s01;");
        due("the first is of the one in turn", x.count(3), 1);
        due("the second of the other", x.count(2), 1);
        due("and turn is as before", x.count(4), 1);
    }

    private static void theFaults() {
        says("FAULT: kind 1 the place of the first letter with which no GAME can go on "
            + "(the end, if something lacks): -1000 less the place; ");
        fault("x", -1000);
        fault("B", -1000);
        fault("0", -1000);
        fault(times("t1;", 31) + "x", -1093);
        fault(times("t1;", 31) + "t1x", -1095);
        fault(times("t1;", 31) + "t", -1094);
        fault(times("t1;", 31) + "t1", -1095);
        fault(times("t1;", 31) + "bo0", -1096);
        fault("f0;x", -1003);
        fault("bo99;c00;s9;l2;t", -1016);
        for (int c : new int[] {0, 31, 58, 97, 127, 128, 255}) {
            fault(String.valueOf((char) c), -1000);
            fault("b" + (char) c, -1001);
            fault("s" + (char) c, -1001);
            fault("s1" + (c == 59 ? "" : (char) c), -1002);
        }
        says("else kind 2 the place of the first letter of the first STATEMENT that, behind all ahead of it in the text, "
            + "is not as it must be ");
        fault("bo01;c01;bo01;", -2005);
        fault("t1;f0;l2;", -2003);
        fault("bo01;bo00;s0;s0;", -2013);
        fault(times("t1;", 31) + "t2;", -2093);
        due("a move is there behind others", game(told("bo00;bo01;"), "s1;s0;"), -2003);
        due("beans are there behind a change", game(told("bo00;bo01;"), "c01;s0;"), 2);
        says("(a number out of range, ");
        fault("f1;bo21;", -2003);
        fault("f1;f0;", -2003);
        fault("f1;l2;", -2003);
        fault("f1;t2;", -2003);
        says("no such BOWL ahead of it, ");
        fault("c01;", -2000);
        fault("bo01;bo01;c02;", -2010);
        fault("bo01;bo01;c20;", -2010);
        fault("bo01;bo01;s2;", -2010);
        fault("bo01;bo01;s9;", -2010);
        fault("bo01;bo01;s02;", -2010);
        due("those that are there count", game(told("bo01;bo02;"), "c01;bo03;c02;c12;"), 4);
        says("one twice, ");
        fault("bo01;bo01;c00;", -2010);
        fault("bo01;bo01;c11;", -2010);
        says("a MOVE that can not be made, ");
        fault("bo01;s0;", -2005);
        fault("bo00;bo01;s0;", -2010);
        fault("bo01;bo00;s00;", -2010);
        says("MOVES above 999, no room for more): ");
        fault(times("bo00;", 9) + "bo00;", -2045);
        says("-2000 less the place. ");
        fault("f0;", -2000);
        says("Without FAULT all of it comes, with one nothing.");
        PurseOfNineBowls x = told("f7;l1;t1;bo02;bh00;bd05;s0;");
        x.row(1);
        List<Integer> before = seen(x);
        due("the last is at fault", game(x, "f2;l0;t0;c01;bq01;s2;bo20;t2;"), -2026);
        due("nothing came", before.equals(seen(x)) ? 1 : 0, 1);
        due("the form is at fault", game(x, "f2;l0;t0;c01;bq01;s2;bo20;t"), -1027);
        due("nothing came of that", before.equals(seen(x)) ? 1 : 0, 1);
        due("all", game(x, "f2;l0;t0;c02;bq01;bo20;"), 6);
        due("all came", x.count(6) * 100 + x.count(7) * 10 + x.count(4), 200);
        due("bowls came", x.count(0), 5);
    }

    /** A bean for a bowl with one less than beans: how many hands it takes then. */
    private static int handsAt(int fullness, char kind, int beans) {
        int less = beans - 1;
        return told("f" + fullness + ";bd01;b" + kind + less / 10 + less % 10 + ";bd00;bd00;").by(0, 0);
    }

    private static void soundsFrom(int fullness, char kind, int from) {
        PurseOfNineBowls x = told("f" + fullness + ";b" + kind + "00;");
        due(kind + " of " + fullness, x.bowl(0, 2), from);
        if (from > 0) {
            due(kind + " of " + fullness + " at it", Math.min(handsAt(fullness, kind, from), 2), 2);
        }
        if (from > 1) {
            due(kind + " of " + fullness + " one less", handsAt(fullness, kind, from - 1), 1);
        }
    }

    private static void takesAt(int fullness, char kind, int beans, int want) {
        PurseOfNineBowls x = told("f" + fullness + ";bd01;b" + kind + beans / 10 + beans % 10 + ";bd00;");
        String what = kind + " of " + fullness + " with " + beans;
        due(what, x.bowl(1, 3), want);
        boolean passedOver = x.by(0, 0) == 1 && x.by(0, 1) == 2;
        due(what + " passed over", passedOver ? 1 : 0, 1 - want);
    }

    private static void theKinds() {
        says("KINDS of BOWLS, from how many BEANS on one SOUNDS (it may never), whether it TAKES a bean that is sown: ");
        due("sounds, takes", told("bo00;").bowl(0, 2) * 10 + told("bo00;").bowl(0, 3), 41);
        says("o BOWL: FULLNESS; always. ");
        says("h SHALLOW under BOWL: half of FULLNESS, rounded up. ");
        says("d DEAF under BOWL: never. ");
        says("w DEEP under BOWL: twice FULLNESS. ");
        says("n NARROW under SHALLOW: as a SHALLOW one; not from as many on as FULLNESS (it is passed over). ");
        says("q QUIET under DEAF: 12. ");
        int[] half = {0, 1, 1, 2, 2, 3, 3, 4, 4, 5};
        for (int f = 1; f <= 9; f++) {
            soundsFrom(f, 'o', f);
            soundsFrom(f, 'h', half[f]);
            soundsFrom(f, 'd', -9);
            soundsFrom(f, 'w', 2 * f);
            soundsFrom(f, 'n', half[f]);
            soundsFrom(f, 'q', 12);
            takesAt(f, 'n', f - 1, 1);
            takesAt(f, 'n', f, 0);
            takesAt(f, 'n', f + 1, 0);
        }
        due("deaf, with 21", handsAt(1, 'd', 21), 1);
        says("Where it is not told as above them. ");
        for (int i = 0; i < 6; i++) {
            PurseOfNineBowls x = told("f1;b" + "ohdwnq".charAt(i) + "20;");
            due("takes " + "ohdwnq".charAt(i), x.bowl(0, 3), i == 4 ? 0 : 1);
        }
        says("No BOWL TAKES one from 99 on.");
        ninetyNine();
    }

    /** A narrow bowl and a deaf one, the deaf one heaped to 95: each time 19 more. */
    private static PurseOfNineBowls heaped() {
        PurseOfNineBowls x = told("f1;bn20;bd00;");
        for (int i = 1; i <= 5; i++) {
            x.move(0);
            x.put(0, 20);
        }
        due("heaped", x.bowl(1, 1), 95);
        return x;
    }

    private static void ninetyNine() {
        PurseOfNineBowls x = heaped();
        x.put(0, 4);
        x.move(0);
        beans("98", x, 1, 98);
        due("takes at 98", x.bowl(1, 3), 1);
        due("one more", x.behind(0, 1), 99);
        due("one more is sown", x.by(0, 2), 1);
        x.move(0);
        beans("99", x, 0, 99);
        due("takes none at 99", x.bowl(1, 3), 0);
        x.put(0, 1);
        // It passes 99 over, comes round to its own bowl, and is taken there: one hand after another of 1.
        due("passed over", x.by(0, 1), 0);
        due("stays 99", x.behind(0, 1), 99);
        x.put(0, 0);
        due("99 of its own: all but one come back to it", x.behind(1, 1), 98);
        due("the first goes to the other", x.behind(1, 0), 1);
        due("each counts", x.by(1, 2), 99);
        for (char kind : "ohwq".toCharArray()) {
            PurseOfNineBowls y = told("f9;l1;bd00;b" + kind + "20;bd00;");
            due(kind + " takes with 20", y.bowl(1, 3), 1);
        }
    }

    private static void theSowing() {
        says("A SOWING from a BOWL with BEANS (two BOWLS at least): all of these are taken in HAND; ");
        due("empty", told("bo00;bo01;").by(0, 0), -3);
        due("one bean", told("bd01;bd00;").by(0, 2), 1);
        due("all of 20", told("bd20;bd00;bd00;").by(0, 2), 20);
        due("one bowl", told("bo05;").by(0, 0), -3);
        due("two bowls", told("bo05;bd00;").by(0, 0), 1);
        says("from the next BOWL on (right: the number 1 more, round; in LENT left) each that TAKES one gets one, ");
        String nine = times("bd00;", 4);
        due("right from the last", told(times("bd00;", 8) + "bd01;").by(8, 1), 0);
        due("right from the first", told("bd01;" + nine + nine).by(0, 1), 1);
        due("left from the first", told("l1;bd01;" + nine + nine).by(0, 1), 8);
        due("left from the last", told("l1;" + nine + nine + "bd01;").by(8, 1), 7);
        due("round, right", told("bd03;bd00;bd00;").by(0, 1), 0);
        due("round, left", told("l1;bd04;bd00;bd00;").by(0, 1), 2);
        says("till the HAND is empty (the BOWL they are from, too; ");
        PurseOfNineBowls own = told("bd04;bd00;bd00;");
        due("its own gets one", own.behind(0, 0), 1);
        due("the next two", own.behind(0, 1), 2);
        due("the last one", own.behind(0, 2), 1);
        due("hand empty at its own", told("bd03;bd00;bd00;").behind(0, 0), 0);
        says("if none TAKES one in a whole round, the rest goes back into the BOWL they are from). ");
        restGoesBack();
        says("Then, if some bean of this HAND was sown, the last BOWL that got one SOUNDS, "
            + "and fewer than 60 HANDS were taken, its BEANS are taken in HAND and sown on from there (a HAND more). ");
        due("60 hands", told("f1;bo01;bo00;").by(0, 0), 60);
        due("sixty sown", told("f1;bo01;bo00;").by(0, 2), 60);
        due("from there on", told("bd01;bo03;bd00;bd00;bd00;bd00;").by(0, 1), 5);
        due("a hand more", told("bd01;bo03;bd00;bd00;bd00;bd00;").by(0, 0), 2);
        due("not full", told("bd01;bo02;bd00;bd00;bd00;bd00;").by(0, 1), 1);
        due("only the last sounds", told("bd02;bo20;bd00;bd00;").by(0, 0), 1);
        says("Else it ends; if the last BOWL that got one has just 1 then, that is taken into the PURSE of whose TURN it is ");
        due("1", told("bd01;bd00;").by(0, 3), 1);
        due("2", told("bd01;bd01;").by(0, 3), 0);
        due("taken from its own", told("bd02;bd00;").by(0, 3), 1);
        due("taken of what sounds with 1", told("f1;bo01;bo00;").by(0, 3), 1);
        due("1 elsewhere is not taken", told("bd02;bd00;bd01;").by(0, 3), 0);
        due("nothing left there", told("bd01;bd00;").behind(0, 1), 0);
        PurseOfNineBowls x = told("t1;bd01;bd00;s0;");
        due("of whose turn it is", x.count(3) * 10 + x.count(2), 10);
        says("(999 at most, else it stays). ");
    }

    private static void restGoesBack() {
        PurseOfNineBowls x = told("f2;bn05;bn02;bn02;");
        // Its own takes two, the others none; the rest of 3 goes back, and 5 sound: 60 times so.
        due("all back", x.behind(0, 0), 5);
        due("others as they were", x.behind(0, 1) * 10 + x.behind(0, 2), 22);
        due("two of each hand sown", x.by(0, 2), 120);
        due("60 hands", x.by(0, 0), 60);
        due("last", x.by(0, 1), 0);
        due("none taken", x.by(0, 3), 0);
        due("none lost", x.by(0, 4), 9);
        PurseOfNineBowls one = told("f2;bn05;bd00;bn02;");
        due("one that takes is enough", one.behind(0, 0), 2);
        due("it gets the rest", one.behind(0, 1), 3);
        PurseOfNineBowls nine = told("f1;bn09;" + times("bn01;", 8));
        due("a whole round of nine", nine.behind(0, 0), 9);
        due("a whole round of nine, its own the last", nine.by(0, 2), 60);
        PurseOfNineBowls left = told("f1;l1;bn01;bn07;bn01;");
        due("in Lent, too", left.behind(1, 1), 7);
        due("in Lent, its own the last", left.by(1, 2), 60);
        PurseOfNineBowls heap = heaped();
        heap.put(0, 6);
        heap.move(0);
        // Four more to 99, one to its own, one back.
        beans("rest behind a heap", heap, 2, 99);
    }

    private static void theMove() {
        says("A MOVE (a BOWL with BEANS, two BOWLS at least): a SOWING; ");
        PurseOfNineBowls x = told("bd01;bd00;bd00;");
        due("an empty one", x.move(1), -3);
        due("one alone", told("bd01;").move(0), -3);
        due("from one with beans", x.move(0), 1);
        says("then TURN is the other one's, MOVES 1 more. ");
        due("1 behind 0", x.count(4), 1);
        due("a move", x.count(5), 1);
        x.put(0, 3);
        x.move(0);
        due("0 behind 1", x.count(4), 0);
        due("two moves", x.count(5), 2);
    }

    private static void inMind() {
        says("by a MOVE from a BOWL: HANDS (0), the last BOWL that got one (1; -9 none), BEANS sown (2: each one counts), ");
        says("BEANS taken into the PURSE (3), BEANS left in all BOWLS (4). ");
        PurseOfNineBowls x = told("f2;bd02;bo01;bo01;bd00;bd00;");
        List<Integer> before = seen(x);
        // 1, 2: it sounds with 2; 3, 4: 4 has just 1, which is taken.
        due("hands", x.by(0, 0), 2);
        due("last", x.by(0, 1), 4);
        due("sown, each one", x.by(0, 2), 4);
        due("taken", x.by(0, 3), 1);
        due("left", x.by(0, 4), 3);
        due("last, the first bowl", told("bd00;bd01;").by(1, 1), 0);
        due("none left", told("bd00;bd01;").by(1, 4), 0);
        due("last is there even if none but its own takes", told("f1;bn01;bn01;").by(0, 1), 0);
        says("BEANS of a BOWL behind it. ");
        due("its own", x.behind(0, 0), 0);
        due("passed", x.behind(0, 3), 1);
        due("the last, taken", x.behind(0, 4), 0);
        says("LONGEST: the BOWL with the most BEANS sown by a MOVE, of several the least; -9 none can be made. ");
        due("none there", new PurseOfNineBowls().longest(), -9);
        due("one alone", told("bo20;").longest(), -9);
        due("all empty", told(times("bo00;", 9)).longest(), -9);
        due("one has beans", told(times("bo00;", 8) + "bo01;").longest(), 8);
        due("of several the least", told("bd00;bd02;bd00;bd02;").longest(), 1);
        due("the most, the last", told("bd02;bd01;bd03;").longest(), 2);
        due("the most, the first", told("bd03;bd01;bd02;").longest(), 0);
        says("EMPTY ones (bits) behind it. ");
        due("none", told("bd03;bd01;").empties(0), 0);
        due("all of two", told("bd01;bd00;").empties(0), 3);
        due("all of nine", told(times("bd00;", 8) + "bd01;").empties(8), 511);
        due("the ninth alone", told(times("bd01;", 8) + "bd08;").empties(8), 256);
        due("in mind alone", before.equals(seen(x)) ? 1 : 0, 1);
    }

    /** Behind the moves told of a path: by how much one gains in n moves, by moves really made. */
    private static int gainBehind(String text, List<Integer> path, int n, boolean bowl) {
        int found = -9;
        int most = 0;
        int bowls = told(text).count(0);
        for (int b = 0; b < bowls && n > 0; b++) {
            PurseOfNineBowls x = told(text);
            for (int p : path) {
                x.move(p);
            }
            if (x.bowl(b, 1) > 0 && bowls > 1) {
                int gain = x.move(b);
                path.add(b);
                gain -= gainBehind(text, path, n - 1, false);
                path.remove(path.size() - 1);
                if (found == -9 || gain > most) {
                    found = b;
                    most = gain;
                }
            }
        }
        return bowl ? found : most;
    }

    private static void ahead() {
        says("BEST n MOVES ahead (1 .. 4): each makes the MOVE by which, both so, the own PURSE is most above the other's "
            + "at the end, of several the least BOWL (fewer MOVES, if none can be made): the BOWL; -9 none; ");
        String[] texts = {"f7;bw02;bd01;bo03;bq01;", "f8;bd03;bh02;bw02;bw03;bo00;", "f9;bw02;bn01;bn03;bw01;",
            "t1;bo01;bo00;bo01;", "f1;l1;bo02;bn01;bh01;", "bo01;bo01;"};
        for (String text : texts) {
            for (int n = 1; n <= 4; n++) {
                due(text + " best " + n, told(text).best(n), gainBehind(text, new ArrayList<>(), n, true));
                due(text + " worth " + n, told(text).worth(n), gainBehind(text, new ArrayList<>(), n, false));
            }
        }
        due("1 to 4 differ", told(texts[0]).best(1) * 1000 + told(texts[0]).best(2) * 100
            + told(texts[0]).best(3) * 10 + told(texts[0]).best(4), 213);
        due("of several the least", told(times("bd01;bd00;", 4)).best(1), 0);
        due("fewer moves", told("bd00;bd01;").best(4), 1);
        due("none", told("bd00;bd00;").best(4), -9);
        due("none of one", told("bd01;").best(1), -9);
        due("none of none", new PurseOfNineBowls().best(4), -9);
        says("WORTH: by how much the own PURSE is above the other's then, less that now (may be below 0). ");
        due("fewer moves, too", told("bd00;bd01;").worth(4), 1);
        due("below 0", told("bo01;bo01;").worth(2), -1);
        due("less that now", told("bd01;bd00;s0;bd01;t0;").worth(1), 1);
        due("less what the other has now", told("bd01;bd00;s0;bd01;").worth(1), 1);
        due("0, if none can be made", told("bd01;bd00;s0;").worth(4), 0);
        says("LOST: 1, if TURN's one can make no MOVE. ");
        due("no bowls", new PurseOfNineBowls().lost(), 1);
        due("one bowl", told("bo20;").lost(), 1);
        due("all empty", told(times("bo00;", 9)).lost(), 1);
        due("one bean in the last", told(times("bo00;", 8) + "bo01;").lost(), 0);
        due("one bean in the first", told("t1;bo01;" + times("bo00;", 8)).lost(), 0);
    }

    /** Behind how many real moves from one bowl the beans are first as they were; each on an object of its own. */
    private static int sameBehind(String text, int bowl, int most) {
        PurseOfNineBowls first = told(text);
        for (int many = 1; many <= most; many++) {
            PurseOfNineBowls x = told(text);
            for (int i = 0; i < many; i++) {
                x.move(bowl);
            }
            boolean same = true;
            for (int b = 0; b < x.count(0); b++) {
                same &= x.bowl(b, 1) == first.bowl(b, 1);
            }
            if (same) {
                return many;
            }
        }
        return -9;
    }

    private static void comesBack() {
        says("COMES BACK: always sowing from one BOWL (PURSES aside, what is taken is gone; TURN aside): "
            + "behind how many MOVES (1 .. 200) all BEANS are first as they are now; -9; ");
        String at200 = "f1;bh11;bw00;bh07;bd12;bo00;";
        String at201 = "f1;l1;bh13;bd08;bo14;bh07;";
        due("1", told("f1;bn05;bn01;").back(0), 1);
        due("200", told(at200).back(3), 200);
        due("200 indeed", sameBehind(at200, 3, 250), 200);
        due("201", told(at201).back(1), -9);
        due("201 indeed", sameBehind(at201, 1, 250), 201);
        due("an empty one", told("bo00;bo01;").back(0), -9);
        due("one alone", told("bo05;").back(0), -9);
        due("what is taken is gone", told("bd02;bd00;").back(0), -9);
        PurseOfNineBowls aside = told("f1;bn01;bn01;t1;bn05;");
        due("turn aside", aside.back(2) * 10 + aside.count(4), 11);
        says("LOOP: behind how many MOVES (0 .. 200) it first comes to BEANS that come again; -9; "
            + "how many MOVES from one to the next of these; ");
        due("0", told("f1;bn05;bn01;").loop(0, 0), 0);
        due("1 from one to the next", told("f1;bn05;bn01;").loop(0, 1), 1);
        due("201 from one to the next", told(at201).loop(1, 1), 201);
        PurseOfNineBowls far = told("f1;bo04;bn12;bo14;bh03;bh05;");
        due("201 on", far.loop(1, 0), -9);
        due("201 on, the next", far.loop(1, 1), -9);
        far.move(1);
        int round = far.loop(1, 1);
        for (int left = 200; left >= 0; left--) {
            due(left + " on", far.loop(1, 0), left);
            far.move(1);
        }
        due("in it", far.loop(1, 0), 0);
        due("as many from one to the next", far.loop(1, 1), round);
        says("it ends if the BOWL is empty: -9 both. ");
        due("at once", told("bo00;bo01;").loop(0, 0), -9);
        due("at once, the next", told("bo00;bo01;").loop(0, 1), -9);
        due("behind one", told("bd01;bd00;bd05;").loop(0, 0), -9);
        due("behind one, the next", told("bd01;bd00;bd05;").loop(0, 1), -9);
        due("one alone", told("bo05;").loop(0, 0), -9);
        due("one alone, the next", told("bo05;").loop(0, 1), -9);
    }

    private static void toEmpty() {
        says("TO EMPTY a BOWL: the fewest MOVES (0 .. 5, of any BOWLS) till it has none; -9; "
            + "the first such MOVE (the least BOWL; -9 none needed, none). ");
        due("0", told("bo00;bo03;").toEmpty(0, 0), 0);
        due("0, the first", told("bo00;bo03;").toEmpty(0, 1), -9);
        due("0 of one alone", told("bo00;").toEmpty(0, 0), 0);
        due("none of one alone", told("bo01;").toEmpty(0, 0), -9);
        due("none of one alone, the first", told("bo01;").toEmpty(0, 1), -9);
        due("1", told("bd00;bd01;").toEmpty(1, 0), 1);
        due("1, the first", told("bd00;bd01;").toEmpty(1, 1), 1);
        due("by another", told("bo01;bo03;bd00;bd00;bd00;").toEmpty(1, 1), 0);
        due("5", told("f3;bq07;bq07;").toEmpty(1, 0), 5);
        due("5, the first", told("f3;bq07;bq07;").toEmpty(1, 1), 1);
        due("5, the least of several", told("f3;bq07;bq07;").toEmpty(0, 1), 0);
        int six = 0;
        for (int one = 1; one <= 20; one++) {
            for (int other = 1; other <= 20; other++) {
                six += sixToEmpty(one, other) ? 1 : 0;
            }
        }
        due("6 were met", six > 0 ? 1 : 0, 1);
        // Rings of many bowls, where few ways of all the thousands lead there.
        emptied("f5;bw03;bn09;bw01;bo14;bq08;bo08;", 4);
        emptied("f5;l1;bh07;bq08;bn08;bn00;bq02;bn03;bw03;", 1);
        emptied("f2;bd12;bh08;bq10;bh16;bn03;bd09;", 5);
        emptied("f3;bq13;bq13;bh17;bn05;bn15;bw14;bo06;", 3);
        emptied("f4;l1;bd17;bw09;bo16;bw12;bw15;bw16;bn17;bw01;", 6);
        emptied("f2;l1;bq10;bw02;bd10;bn01;bd09;bn06;bw15;bh14;", 4);
        emptied("f4;l1;bw06;bn05;bn16;bd17;bn18;bn01;", 3);
        emptied("f1;l1;bo01;bh04;bo03;bn02;", 3);
        emptied(times("bo00;", 8) + "bo01;", 8);
    }

    /** Tries all ways by moves really made, the shortest first and of these the least bowl first. */
    private static void emptied(String text, int bowl) {
        int many = -9;
        List<Integer> way = new ArrayList<>();
        for (int n = 0; n <= 5 && many == -9; n++) {
            many = emptiedIn(text, bowl, way, n) ? n : -9;
        }
        due(text + bowl, told(text).toEmpty(bowl, 0), many);
        due(text + bowl + ", the first", told(text).toEmpty(bowl, 1), many > 0 ? way.get(0) : -9);
    }

    private static boolean emptiedIn(String text, int bowl, List<Integer> way, int more) {
        PurseOfNineBowls x = told(text);
        for (int b : way) {
            x.move(b);
        }
        if (more == 0) {
            return x.bowl(bowl, 1) == 0;
        }
        for (int b = 0; b < x.count(0); b++) {
            if (x.bowl(b, 1) > 0) {
                way.add(b);
                if (emptiedIn(text, bowl, way, more - 1)) {
                    return true;
                }
                way.remove(way.size() - 1);
            }
        }
        return false;
    }

    /** Whether six moves empty bowl 0 and no fewer; then both answers are -9. */
    private static boolean sixToEmpty(int one, int other) {
        String text = "f3;bq" + one / 10 + one % 10 + ";bq" + other / 10 + other % 10 + ";";
        PurseOfNineBowls x = told(text);
        int by0 = x.move(0) < 0 ? -9 : x.toEmpty(0, 0);
        PurseOfNineBowls y = told(text);
        int by1 = y.move(1) < 0 ? -9 : y.toEmpty(0, 0);
        boolean six = Math.max(by0, by1) == 5 && (by0 == 5 || by0 == -9) && (by1 == 5 || by1 == -9);
        if (six) {
            due("six, " + text, told(text).toEmpty(0, 0), -9);
            due("six, the first, " + text, told(text).toEmpty(0, 1), -9);
        }
        return six;
    }

    private static void prices() {
        says("PRICE of a bean: how much more WORTH 2 MOVES ahead is, were 1 BEAN more in a BOWL (may be below 0). ");
        // Two moves ahead (1,0) is worth 1, (2,0), (0,0) and (0,2) 0, (1,1) -1.
        due("below 0", told("bo01;bo00;").price(0), -1);
        due("far below 0", told("bo01;bo00;").price(1), -2);
        due("above 0", told("bo00;bo00;").price(0), 1);
        // 21 as told by 20 and a bean more, and as sown: 0 gives one bean to 1.
        PurseOfNineBowls sown = told("bd01;bd20;bd02;t1;s0;");
        PurseOfNineBowls put = told("bd00;bd20;bd02;");
        due("one more than 20", put.price(1), sown.worth(2) - put.worth(2));
        due("as sown", sown.bowl(1, 1), 21);
        says("SOLD: were it 1 less. ");
        due("below 0", told("bo01;bo00;").sold(0), -1);
        due("above 0", told("bo01;bo01;").sold(0), 2);
        due("to none", told("bo00;bo01;").sold(1), -1);
        says("CHANGE: the two BOWLS that, their BEANS changed, make WORTH 2 MOVES ahead most, more than now "
            + "(10 the lesser and the other), of several the least; -9. ");
        due("none there", new PurseOfNineBowls().change(), -9);
        due("one alone", told("bo01;").change(), -9);
        due("as much as now is not more", told("bo01;bo00;").change(), -9);
        String[] texts = {"f8;l1;bd02;bw03;bo03;bn03;bh00;bw03;bh03;bq01;bq00;", "f2;bd09;bw06;bo05;",
            "f5;bw00;bh04;bo01;bn04;bd02;", "f4;bh04;bh00;bh03;bd00;bq00;bh01;", "f2;l1;bd05;bn04;bw01;bq05;"};
        int[] want = {78, 2, 3, 45, 12};
        for (int i = 0; i < texts.length; i++) {
            due(texts[i], told(texts[i]).change(), want[i]);
            due(texts[i] + " as told by c", told(texts[i]).change(), changeByGames(texts[i]));
        }
        says("FAIR: the least v (1 .. 9) such that, with v BEANS in each BOWL, WORTH 2 MOVES ahead is 0; -9. ");
        due("1", told("bo07;").fair(), 1);
        fairness("f9;l1;bo00;bq03;bd02;bh03;bq01;bh02;bd01;bw03;", 9);
        fairness("f9;bw00;bo02;bo01;bd00;bo00;bo02;bq00;bd03;bo00;", 10);
        fairness("bo01;bo00;", 6);
    }

    private static int changeByGames(String text) {
        int found = -9;
        int most = told(text).worth(2);
        for (int i = 0; i < 9; i++) {
            for (int j = i + 1; j < told(text).count(0); j++) {
                int worth = told(text + "c" + i + j + ";").worth(2);
                if (worth > most) {
                    most = worth;
                    found = 10 * i + j;
                }
            }
        }
        return found;
    }

    /** The least number in each that is worth 0 is so, shown by putting; above 9 fair is -9. */
    private static void fairness(String text, int least) {
        due(text + " fair", told(text).fair(), least > 9 ? -9 : least);
        PurseOfNineBowls x = told(text);
        for (int v = 1; v <= least; v++) {
            for (int b = 0; b < x.count(0); b++) {
                x.put(b, v);
            }
            due(text + " with " + v, x.worth(2) == 0 ? 1 : 0, v == least ? 1 : 0);
        }
    }

    private static void soundsAndNext() {
        says("SOUNDS: a ROW tells for each BOWL how many it SOUNDS by: 1 it SOUNDS, 0 not, 2 unknown: "
            + "in how many ways n BEANS (0 .. 40) can lie so (0 .. 20 in each; ");
        PurseOfNineBowls x = told("bo07;bd07;");
        row(x, 1, 2);
        due("4 sounds", x.sounds(4), 1);
        due("3 does not", x.sounds(3), 0);
        row(x, 0, 2);
        due("not with 4", x.sounds(4), 4);
        due("23 at most", x.sounds(23), 1);
        due("24 are too many", x.sounds(24), 0);
        row(x, 2, 2);
        due("0 beans", x.sounds(0), 1);
        due("20 in one, 0 .. 20", x.sounds(20), 21);
        due("21, each has one at least", x.sounds(21), 20);
        due("39", x.sounds(39), 2);
        due("40, 20 in each", x.sounds(40), 1);
        row(x, 2, 1);
        due("a deaf one never", x.sounds(20), 0);
        PurseOfNineBowls one = told("bo07;");
        row(one, 2);
        due("20 in one alone", one.sounds(20), 1);
        due("21 in one alone", one.sounds(21), 0);
        PurseOfNineBowls deep = told("f9;bw00;");
        row(deep, 1);
        due("17 in a deep one", deep.sounds(17), 0);
        due("18 in a deep one", deep.sounds(18), 1);
        says("1000000000 at most); ");
        PurseOfNineBowls nine = told(times("bo00;", 9));
        row(nine, 2, 2, 2, 2, 2, 2, 2, 2, 2);
        // As many as nine bowls have: 48 over 8, less 9 times 27 over 8 with one above 20.
        due("the most there are", nine.sounds(40), 357368319);
        says("NEXT: the unknown BOWL of which both answers have ways most alike (the lesser most), of several the least; -9. ");
        row(x, 2, 2);
        due("the other is deaf", x.next(10), 0);
        // 10 beans: 0 is silent in 1 way and sounds in 10, 1 in 2 and 9.
        PurseOfNineBowls loud = told("f1;bo00;bw00;");
        row(loud, 2, 2);
        due("silence in fewer ways", loud.next(10), 1);
        // 20 beans: 0 sounds in 3 ways and is silent in 18, 1 in 12 and 9.
        PurseOfNineBowls quiet = told("f9;bw00;bo00;");
        row(quiet, 2, 2);
        due("sound in fewer ways", quiet.next(20), 1);
        row(x, 1, 2);
        due("no way by one answer", x.next(10), 1);
        row(x, 1, 0);
        due("none is unknown", x.next(10), -9);
        due("of several the least", nine.next(20), 0);
        row(nine, 0, 1, 0, 0, 2, 0, 0, 2, 2);
        due("of several unknown the least", nine.next(20), 4);
        PurseOfNineBowls last = told(times("bd00;", 8) + "bo00;");
        row(last, 2, 2, 2, 2, 2, 2, 2, 2, 2);
        due("the last", last.next(20), 8);
        due("no bowls", new PurseOfNineBowls().next(0), -9);
    }

    private static void judgedAndLots() {
        says("JUDGED: the ROW as MOVES from now: the first that can not be made; -9; ");
        PurseOfNineBowls x = told("bd02;bd00;bd00;bd00;");
        due("no row", x.judge(), -9);
        row(x, 1);
        due("the first", x.judge(), 0);
        row(x, 0, 1);
        due("all can", x.judge(), -9);
        row(x, 0, 1, 0);
        due("the last of three", x.judge(), 2);
        row(x, 0, 1);
        due("what was told ahead is no more", x.judge(), -9);
        row(x, 4);
        due("no such bowl", x.judge(), 0);
        row(x, 9);
        due("9", x.judge(), 0);
        PurseOfNineBowls many = told("bd20;bd20;bd20;");
        row(many, 0, 1, 2, 0, 1, 2, 0, 1, 2, 0, 1, 2);
        due("twelve", many.judge(), -9);
        row(many, 0, 1, 2, 0, 1, 2, 0, 1, 2, 0, 1, 3);
        due("the twelfth", many.judge(), 11);
        says("PLAYED: PURSES (0, 1) behind all that can till then. ");
        row(x, 0, 0, 1);
        due("till then", x.played(0) * 10 + x.played(1), 10);
        row(x, 0, 1);
        due("all", x.played(0) * 10 + x.played(1), 11);
        row(x, 0);
        due("not what was told ahead", x.played(0) * 10 + x.played(1), 10);
        row(x, 1, 0, 1);
        due("none", x.played(0) * 10 + x.played(1), 0);
        row(x);
        due("no row", x.played(0), 0);
        says("LOTS with a seed z: n games (1 .. 20) from now, each 20 MOVES of a BOWL by a DRAW below how many there are "
            + "(an empty one: nothing is sown, but TURN is the other one's): PURSE of TURN's one less the other's at the ends, "
            + "together (may be below 0). ");
        says("A DRAW below m: z becomes z times 1664525 and 1013904223 (an int); "
            + "(z without its sign's bit by 256, cut) modulo m.");
        int below = 0;
        for (int bowls = 2; bowls <= 9; bowls++) {
            PurseOfNineBowls y = told("bd01;" + times("bd00;", bowls - 1));
            for (int z : new int[] {0, 1, -1, 255, 256, 7654321, Integer.MAX_VALUE, Integer.MIN_VALUE}) {
                for (int n : new int[] {1, 2, 20}) {
                    due(bowls + " bowls, " + n + " games, seed " + z, y.lots(n, z), oneBeanByLots(bowls, n, z));
                    below += y.lots(n, z) < 0 ? 1 : 0;
                }
            }
        }
        due("some are below 0", below > 0 ? 1 : 0, 1);
        due("purses count", told("bd01;bd00;s0;").lots(20, 1), -20);
        due("turn's one", told("bd01;bd00;s0;t0;").lots(20, 1), 20);
        due("all empty", told("bd00;bd00;").lots(20, 1), 0);
    }

    /** One bean in bowl 0, of deaf ones: whoever's turn it is when 0 is first drawn has it in the purse. */
    private static int oneBeanByLots(int bowls, int games, int seed) {
        long z = seed;
        int together = 0;
        for (int game = 0; game < games; game++) {
            int own = 0;
            for (int i = 0; i < 20; i++) {
                z = (int) (z * 1664525L + 1013904223L);
                long bare = z < 0 ? z + 2147483648L : z;
                if (own == 0 && bare / 256 % bowls == 0) {
                    own = i % 2 == 0 ? 1 : -1;
                }
            }
            together += own;
        }
        return together;
    }

    private static void imageAndRefusals() {
        says("all that there is, but it, the ROW, letters, REFUSALS; ON from it all is as then. ");
        PurseOfNineBowls x = told("f3;l1;t1;bo01;bh00;bq07;s0;");
        due("taken", x.image(), 1);
        List<Integer> then = seen(x);
        game(x, "f1;l0;t1;bn01;c02;s0;");
        x.row(5);
        x.letter('b');
        x.letter('b');
        x.move(9);
        due("on", x.on(), 1);
        due("not the row", x.count(8), 1);
        due("not the letters", x.count(9), 2);
        due("not the refusals", x.count(NOBODY), 1);
        x.judge();
        x.game();
        due("all as then", then.equals(seen(x)) ? 1 : 0, 1);
        x.put(0, 20);
        due("on once more", x.on(), 1);
        due("not it: it stays", then.equals(seen(x)) ? 1 : 0, 1);
        PurseOfNineBowls empty = new PurseOfNineBowls();
        due("of no bowls", empty.image(), 0);
        due("nine then", game(empty, times("bo01;", 9)), 9);
        due("on to none", empty.on() + empty.count(0), 0);
        due("room for nine again", game(empty, times("bo01;", 9)), 9);
        says("the call answers the number, the first that fits in the order in which it tells them; "
            + "nothing changes but how many there were): ");
        orderOfRefusals();
        says("-1 NOBODY: no such BOWL. ");
        due("below", x.bowl(-1, 0), -1);
        due("one too many", x.bowl(3, 0), -1);
        says("-2 OTHER: what, KIND. ");
        due("what", x.bowl(0, 4), -2);
        says("-3 STATE: it is not as it must be. ");
        due("no image", new PurseOfNineBowls().on(), -3);
        says("-4 BELOW: a number below the least. ");
        due("below", x.put(0, -1), -4);
        says("-6 ROOM: a number above the greatest, no room. ");
        due("above", x.put(0, 21), -6);
        says("Of worth(), price(), sold(), lots() REFUSALS are 1000000000 less them (-1 is told as 1000000001).");
        due("worth", x.worth(0), 1000000004);
        due("price", x.price(3), 1000000001);
        due("sold", x.sold(3), 1000000001);
        due("lots", x.lots(21, 0), 1000000006);
    }

    /** Calls that could be refused in several ways: the first told counts. */
    private static void orderOfRefusals() {
        Supplier<PurseOfNineBowls> two = () -> told("bd01;bd00;");
        refused("bowl(2, 4)", two, NOBODY, x -> x.bowl(2, 4));
        refused("put(2, -1)", two, NOBODY, x -> x.put(2, -1));
        refused("put(2, 21)", two, NOBODY, x -> x.put(2, 21));
        refused("set(3, -1)", two, OTHER, x -> x.set(3, -1));
        refused("set(3, 10)", two, OTHER, x -> x.set(3, 10));
        refused("by(2, 5)", two, NOBODY, x -> x.by(2, 5));
        refused("by(1, 5)", two, OTHER, x -> x.by(1, 5));
        refused("behind(1, 2)", two, NOBODY, x -> x.behind(1, 2));
        refused("behind(2, 1)", two, NOBODY, x -> x.behind(2, 1));
        refused("loop(2, 2)", two, NOBODY, x -> x.loop(2, 2));
        refused("toEmpty(2, 2)", two, NOBODY, x -> x.toEmpty(2, 2));
        refused("sounds(-1)", two, BELOW, x -> x.sounds(-1));
        refused("sounds(41)", two, ROOM, x -> x.sounds(41));
        refused("next(-1)", two, BELOW, x -> x.next(-1));
        refused("next(41)", two, ROOM, x -> x.next(41));
        Supplier<PurseOfNineBowls> one = () -> told("bo05;");
        refused("lots(0, 0)", one, BELOW, x -> x.lots(0, 0));
        refused("lots(21, 0)", one, ROOM, x -> x.lots(21, 0));
        refused("letter(-1) behind 96", EdgesTest::fullOfLettersAndRow, BELOW, x -> x.letter(-1));
        refused("row(-1) behind 12", EdgesTest::fullOfLettersAndRow, BELOW, x -> x.row(-1));
        refused("letter(256) behind 96", EdgesTest::fullOfLettersAndRow, ROOM, x -> x.letter(256));
        refused("row(10) behind 12", EdgesTest::fullOfLettersAndRow, ROOM, x -> x.row(10));
    }

    private static PurseOfNineBowls fullOfLettersAndRow() {
        PurseOfNineBowls x = told("bd01;bd00;");
        for (int i = 1; i <= 96; i++) {
            x.letter('b');
        }
        for (int i = 1; i <= 12; i++) {
            x.row(1);
        }
        return x;
    }

    private static void firstPromises() {
        says("`PurseOfNineBowls()`: No BOWLS.");
        PurseOfNineBowls made = new PurseOfNineBowls();
        for (int what = 0; what <= 17; what++) {
            due("count(" + what + ")", made.count(what), what == 6 ? 4 : what == 10 || what == 17 ? -9 : 0);
        }
        says("A letter (0 .. 255) comes: how many there are. -4; -6 (255; 96, too).");
        PurseOfNineBowls x = new PurseOfNineBowls();
        due("0", x.letter(0), 1);
        due("255", x.letter(255), 2);
        range("letter", "bd01;", 0, 255, (y, v) -> y.letter(v));
        for (int i = 3; i <= 96; i++) {
            due("letter " + i, x.letter(255), i);
        }
        refused("letter, a 97th", EdgesTest::fullOfLettersAndRow, ROOM, y -> y.letter(0));
        says("The letters become a GAME, and are no more (with a FAULT neither): how many STATEMENTS; "
            + "the FAULT (nothing is counted).");
        due("at fault", x.game(), -1000);
        due("no more", x.count(9), 0);
        due("none there", x.game(), -1000);
        due("at fault by sense", game(x, "s0;"), -2000);
        due("no more", x.count(9), 0);
        for (int what = 11; what <= 16; what++) {
            due("nothing is counted, " + what, x.count(what), 0);
        }
        due("one statement", game(x, "t0;") * 10 + x.count(9), 10);
        says("Of a BOWL: 0 KIND (0 o, 1 h, 2 d, 3 w, 4 n, 5 q), 1 BEANS, 2 from how many on it SOUNDS (-9 never), "
            + "3 whether it TAKES one now. -1; -2.");
        PurseOfNineBowls y = told("f9;bo00;bh01;bd02;bw03;bn08;bq20;");
        int[][] want = {{0, 0, 9, 1}, {1, 1, 5, 1}, {2, 2, -9, 1}, {3, 3, 18, 1}, {4, 8, 5, 1}, {5, 20, 12, 1}};
        for (int b = 0; b < 6; b++) {
            for (int what = 0; what < 4; what++) {
                due("bowl(" + b + ", " + what + ")", y.bowl(b, what), want[b][what]);
            }
        }
        y.put(4, 9);
        due("narrow, now", y.bowl(4, 3), 0);
        nobody("bowl", "bd01;bd00;", 2, (z, b) -> z.bowl(b, 0));
        others("bowl", "bd01;bd00;", 3, (z, what) -> z.bowl(0, what));
        putAndSet(y);
    }

    private static void putAndSet(PurseOfNineBowls y) {
        says("BEANS become v: what they were. -1; -4; -6 20.");
        due("greatest", y.put(0, 20), 0);
        due("least", y.put(0, 0), 20);
        due("is", y.bowl(0, 1), 0);
        nobody("put", "bd01;bd00;", 2, (x, b) -> x.put(b, 1));
        range("put", "bd01;bd00;", 0, 20, (x, v) -> x.put(1, v));
        says("FULLNESS (what 0), LENT (1), TURN (2) becomes v: what it was. -2; -4 (1; 0; 0); -6 (9; 1; 1).");
        due("fullness, least", y.set(0, 1), 9);
        due("fullness, greatest", y.set(0, 9), 1);
        due("fullness is", y.count(6), 9);
        due("Lent 1", y.set(1, 1), 0);
        due("Lent is 1, and turn as before", y.count(7) * 10 + y.count(4), 10);
        due("Lent 0", y.set(1, 0), 1);
        due("Lent is", y.count(7), 0);
        due("turn 1", y.set(2, 1), 0);
        due("turn is 1, and Lent as before", y.count(4) * 10 + y.count(7), 10);
        due("turn 0", y.set(2, 0), 1);
        due("turn is", y.count(4), 0);
        others("set", "bd01;", 2, (x, what) -> x.set(what, 1));
        range("set fullness", "bd01;", 1, 9, (x, v) -> x.set(0, v));
        range("set Lent", "bd01;", 0, 1, (x, v) -> x.set(1, v));
        range("set turn", "bd01;", 0, 1, (x, v) -> x.set(2, v));
    }

    private static void middlePromises() {
        PurseOfNineBowls three = told(THREE);
        PurseOfNineBowls one = told(ONE);
        says("A MOVE: BEANS taken into the PURSE. -1; -3 it can not be made; -6 MOVES above 999.");
        nobody("move", THREE, 3, (x, b) -> x.move(b));
        refused("move of an empty one", () -> told(THREE), STATE, x -> x.move(1));
        refused("move of one alone", () -> told(ONE), STATE, x -> x.move(0));
        says("By a MOVE: 0 .. 4 as told. -1; -2; -3 it can not be made.");
        nobody("by", THREE, 3, (x, b) -> x.by(b, 0));
        others("by", THREE, 4, (x, what) -> x.by(0, what));
        for (int what = 0; what <= 4; what++) {
            int asked = what;
            refused("by an empty one, " + what, () -> told(THREE), STATE, x -> x.by(1, asked));
            refused("by one alone, " + what, () -> told(ONE), STATE, x -> x.by(0, asked));
        }
        says("BEANS of the other BOWL behind a MOVE from the first. -1 either; -3.");
        nobody("behind, the first", THREE, 3, (x, b) -> x.behind(b, 0));
        nobody("behind, the other", THREE, 3, (x, b) -> x.behind(0, b));
        refused("behind an empty one", () -> told(THREE), STATE, x -> x.behind(1, 0));
        refused("behind one alone", () -> told(ONE), STATE, x -> x.behind(0, 0));
        says("EMPTY ones (bits). -1; -3.");
        nobody("empties", THREE, 3, (x, b) -> x.empties(b));
        refused("empties of an empty one", () -> told(THREE), STATE, x -> x.empties(1));
        refused("empties of one alone", () -> told(ONE), STATE, x -> x.empties(0));
        says("LONGEST; -9.");
        due("none", one.longest(), -9);
        says("BEST; -9. -4 below 1; -6 4.");
        due("none", one.best(1), -9);
        range("best", THREE, 1, 4, (x, n) -> x.best(n));
        says("WORTH (0 if none can be made). Refused as told: -4 below 1; -6 4.");
        due("none", one.worth(4), 0);
        range("worth", THREE, 1, 4, (x, n) -> x.worth(n));
        says("LOST: 1, 0.");
        due("lost", one.lost(), 1);
        due("not lost", three.lost(), 0);
        says("COMES BACK; -9. -1.");
        due("none", one.back(0), -9);
        nobody("back", THREE, 3, (x, b) -> x.back(b));
        says("LOOP: behind how many (what 0), how many from one to the next (1); -9. -1; -2.");
        due("none", one.loop(0, 0), -9);
        due("none either", one.loop(0, 1), -9);
        nobody("loop", THREE, 3, (x, b) -> x.loop(b, 0));
        others("loop", THREE, 1, (x, what) -> x.loop(0, what));
        says("TO EMPTY: how many (what 0; -9), the first (1; -9). -1; -2.");
        due("none", one.toEmpty(0, 0), -9);
        due("none either", one.toEmpty(0, 1), -9);
        nobody("toEmpty", THREE, 3, (x, b) -> x.toEmpty(b, 1));
        others("toEmpty", THREE, 1, (x, what) -> x.toEmpty(0, what));
        says("PRICE. Refused as told: -1.");
        due("one alone", one.price(0), 0);
        nobody("price", THREE, 3, (x, b) -> x.price(b));
        says("SOLD. Refused as told: -1; -3 it has none.");
        due("one alone", one.sold(0), 0);
        nobody("sold", THREE, 3, (x, b) -> x.sold(b));
        refused("sold of an empty one", () -> told(THREE), STATE, x -> x.sold(1));
        says("CHANGE; -9.");
        due("none", one.change(), -9);
        says("FAIR; -9.");
        due("none", told("f5;bh03;bh01;").fair(), -9);
    }

    private static void lastPromises() {
        PurseOfNineBowls three = told(THREE);
        PurseOfNineBowls one = told(ONE);
        says("SOUNDS by the ROW (it stays). -4; -6 40; -3 it has not as many as there are BOWLS, one of it above 2.");
        rowsNotAsTheyMustBe("sounds", x -> x.sounds(2));
        row(three, 2, 2, 2, 9);
        row(three, 2, 2, 2);
        due("as it must be, whatever was told ahead", three.sounds(2), 6);
        due("the row stays", three.count(8), 3);
        range("sounds", THREE, 0, 40, (x, n) -> x.sounds(n));
        says("NEXT; -9. -4; -6 40; -3 likewise.");
        rowsNotAsTheyMustBe("next", x -> x.next(2));
        row(three, 2, 2, 2, 2);
        row(three, 0, 0, 0);
        due("none unknown, whatever was told ahead", three.next(2), -9);
        due("the row stays", three.count(8), 3);
        range("next", THREE, 0, 40, (x, n) -> x.next(n));
        says("PLAYED: a PURSE (the ROW stays). -2.");
        due("a purse", three.played(0) + three.played(1), 1);
        due("the row stays", three.count(8), 3);
        others("played", THREE, 1, (x, who) -> x.played(who));
        says("A number more of the ROW (0 .. 9): how many. -4; -6 (9; 12, too).");
        row(three);
        due("least", three.row(0), 1);
        due("greatest", three.row(9), 2);
        range("row", THREE, 0, 9, (x, v) -> x.row(v));
        for (int i = 3; i <= 12; i++) {
            due("number " + i, three.row(0), i);
        }
        refused("row, a 13th", EdgesTest::fullOfLettersAndRow, ROOM, x -> x.row(0));
        says("JUDGED; -9 (whichever it answers, the ROW has none then).");
        due("one can not", three.judge(), 1);
        due("none then", three.count(8), 0);
        three.row(0);
        due("all can", three.judge(), -9);
        due("none then, either", three.count(8), 0);
        says("LOTS. Refused as told: -4 below 1; -6 20; -3 fewer than two BOWLS.");
        range("lots", THREE, 1, 20, (x, n) -> x.lots(n, 0));
        refused("lots of one", () -> told(ONE), STATE, x -> x.lots(1, 0));
        PurseOfNineBowls none = new PurseOfNineBowls();
        refused("lots of none", PurseOfNineBowls::new, STATE, x -> x.lots(20, 0));
        due("of two", told("bd00;bd00;").lots(1, 0), 0);
        says("THE IMAGE is taken: MOVES.");
        due("none at first", none.image(), 0);
        says("ON from it: MOVES. -3 there is none.");
        refused("on, no image", () -> told(THREE), STATE, x -> x.on());
        three.move(0);
        due("moves", three.image(), 1);
        three.put(0, 5);
        three.move(0);
        due("moves then", three.on(), 1);
        says("0 BOWLS, 1 all BEANS, 2, 3 PURSES, 4 TURN, 5 MOVES, 6 FULLNESS, 7 LENT, 8 in the ROW, 9 letters, "
            + "11 .. 16 REFUSALS -1 .. -6. -9 for another what.");
        int[] others = {-1, 10, 17, Integer.MIN_VALUE, Integer.MAX_VALUE, -9, 18, 100};
        for (int what : others) {
            due("count(" + what + ")", three.count(what), -9);
        }
        due("all beans", told(times("bo20;", 9)).count(1), 180);
        due("-5 is never told", three.count(15), 0);
    }

    private static void rowsNotAsTheyMustBe(String what, ToIntFunction<PurseOfNineBowls> call) {
        int[][] rows = {{}, {2, 2}, {2, 2, 2, 2}, {3, 2, 2}, {2, 3, 2}, {2, 2, 3}, {2, 2, 9},
            {0, 0, 0, 0, 0, 0, 0, 0, 0, 0, 0, 0}};
        for (int[] values : rows) {
            Supplier<PurseOfNineBowls> made = () -> {
                PurseOfNineBowls x = told(THREE);
                row(x, values);
                return x;
            };
            refused(what + " by " + Arrays.toString(values), made, STATE, call);
        }
    }

    /**
     * More moves than an object's 512 calls can make: what is answered then is free by the document,
     * but the class keeps no count of its calls, so that its greatest numbers can be seen there.
     */
    private static void movesAndPursesAtTheirMost() {
        lookFrom = 0;
        PurseOfNineBowls x = told("bd02;bd00;bd00;");
        for (int i = 1; i <= 998; i++) {
            x.put(0, 2);
            x.put(1, 0);
            x.set(2, 0);
            x.move(0);
        }
        says("MOVES (0 .. 999; 0 at first).");
        due("998", x.count(5), 998);
        x.put(0, 2);
        x.put(1, 0);
        x.set(2, 0);
        says("MOVES above 999");
        due("a second is one too many", game(x, "s01;"), -2000);
        due("998 still", x.count(5), 998);
        due("the 999th", game(x, "s0;"), 1);
        due("999", x.count(5), 999);
        due("told above it", game(x, "t1;s1;"), -2003);
        says("(999 at most, else it stays).");
        due("a purse of 999", x.count(2), 999);
        x.put(0, 2);
        x.put(1, 0);
        x.set(2, 0);
        due("none more is taken", x.by(0, 3), 0);
        due("it stays", x.behind(0, 2), 1);
        due("none is worth it", x.worth(1), 0);
        row(x, 0);
        due("played, 999", x.played(0), 999);
        row(x);
        x.set(2, 1);
        due("the other's takes", x.by(0, 3), 1);
        x.set(2, 0);
        says("-1; -3 it can not be made; -6 MOVES above 999.");
        refused("move, the 1000th", () -> x, ROOM, y -> y.move(0));
        refused("move of an empty one, the 1000th", () -> x, STATE, y -> y.move(1));
        refused("move of none, the 1000th", () -> x, NOBODY, y -> y.move(3));
        due("image at 999", x.image(), 999);
        due("on at 999", x.on(), 999);
    }

    /** What is asked in mind leaves nothing behind: whatever was asked ahead, each answers as on a new object. */
    private static void askedBehindOthers() {
        quote = "in mind";
        List<ToIntFunction<PurseOfNineBowls>> asked = List.of(x -> x.by(0, 2), x -> x.behind(2, 0), x -> x.empties(1),
            x -> x.longest(), x -> x.best(3), x -> x.worth(2), x -> x.lost(), x -> x.back(1), x -> x.loop(1, 0),
            x -> x.loop(1, 1), x -> x.toEmpty(0, 0), x -> x.toEmpty(0, 1), x -> x.toEmpty(3, 1), x -> x.price(1),
            x -> x.sold(2), x -> x.change(), x -> x.fair(), x -> x.sounds(9), x -> x.next(9), x -> x.played(1),
            x -> x.lots(3, 5));
        String[] texts = {"f1;bo04;bn12;bo14;bo00;", "f3;l1;bw03;bh05;bq07;bo00;", "f2;bn05;bd03;bo01;bo00;",
            "f1;bw06;bd07;bh05;bo04;"};
        for (String text : texts) {
            for (int first = 0; first < asked.size(); first++) {
                for (int second = 0; second < asked.size(); second++) {
                    PurseOfNineBowls x = told(text);
                    row(x, 2, 2, 1, 0);
                    int fresh = asked.get(second).applyAsInt(x);
                    PurseOfNineBowls y = told(text);
                    row(y, 2, 2, 1, 0);
                    asked.get(first).applyAsInt(y);
                    due(text + " asked " + first + ", " + second, asked.get(second).applyAsInt(y), fresh);
                }
            }
        }
    }
}
