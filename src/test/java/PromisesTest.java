/**
 * The promises of the document one by one: ordinary inputs, the edges that it names, wrong inputs.
 * What is due was worked out by hand, where no other way is told.
 */
public final class PromisesTest {
    private static int checked = 0;
    private static int wrong = 0;

    private static void due(String what, int got, int want) {
        checked++;
        if (got != want) {
            wrong++;
            System.out.println(what + " answered " + got + ", due is " + want);
        }
    }

    private static int game(PurseOfNineBowls x, String text) {
        for (int i = 0; i < text.length(); i++) {
            x.letter(text.charAt(i));
        }
        return x.game();
    }

    private static PurseOfNineBowls told(String text) {
        PurseOfNineBowls x = new PurseOfNineBowls();
        int answer = game(x, text);
        if (answer < 1) {
            due("told " + text, answer, 1);
        }
        return x;
    }

    private static void beans(String what, PurseOfNineBowls x, int... want) {
        due(what + ": bowls", x.count(0), want.length);
        for (int b = 0; b < want.length; b++) {
            due(what + ": bowl " + b, x.bowl(b, 1), want[b]);
        }
    }

    private static void told(PurseOfNineBowls x, int... row) {
        x.judge();
        for (int v : row) {
            x.row(v);
        }
    }

    public static void main(String[] args) {
        newObject();
        letters();
        gamesOfForm();
        gamesOfSense();
        gamesThatCome();
        bowls();
        puts();
        sets();
        moves();
        kindsSown();
        edgesOfSowing();
        inMind();
        longest();
        bestAndWorth();
        lost();
        back();
        loop();
        toEmpty();
        priceAndSold();
        change();
        fair();
        sounds();
        next();
        playedAndJudged();
        rows();
        lots();
        images();
        counts();
        System.out.println(wrong == 0 ? checked + " answers are as due" : wrong + " answers are not as due");
        if (wrong != 0) {
            System.exit(1);
        }
    }

    // Promise 1
    private static void newObject() {
        PurseOfNineBowls x = new PurseOfNineBowls();
        for (int what = 0; what <= 16; what++) {
            due("1: count(" + what + ")", x.count(what), what == 6 ? 4 : what == 10 ? -9 : 0);
        }
        due("1: no bowl", x.bowl(0, 0), -1);
        due("1: no image", x.on(), -3);
    }

    // Promise 2
    private static void letters() {
        PurseOfNineBowls x = new PurseOfNineBowls();
        due("2: least", x.letter(0), 1);
        due("2: greatest", x.letter(255), 2);
        due("2: below", x.letter(-1), -4);
        due("2: above", x.letter(256), -6);
        due("2: far below", x.letter(Integer.MIN_VALUE), -4);
        due("2: far above", x.letter(Integer.MAX_VALUE), -6);
        due("2: held", x.count(9), 2);
        for (int i = 3; i <= 96; i++) {
            due("2: letter " + i, x.letter('b'), i);
        }
        due("2: no room", x.letter('b'), -6);
        due("2: below ahead of no room", x.letter(-1), -4);
        due("2: held at last", x.count(9), 96);
        due("2: refused -4", x.count(14), 3);
        due("2: refused -6", x.count(16), 3);
    }

    // Promise 3: faults of kind 1
    private static void gamesOfForm() {
        String[] texts = {"", "x", ";", "b", "bx", "bo", "bo1", "bo1x", "bo1;", "bo11", "bo11x", "bo111;", "f", "fx",
            "f4", "f44;", "l", "lx", "l0", "c", "c0", "c0;", "c01", "c012;", "t", "t1", "t11;", "s", "s;", "sx",
            "s0", "s012345678", "s0123456789;", "f4;f4;x", "f4;;", "f4; f4;", "F4;", "b?11;", "f4;b", "f:;", "f/;",
            "bh1:;"};
        int[] places = {0, 0, 0, 1, 1, 2, 3, 3, 3, 4, 4, 4, 1, 1,
            2, 2, 1, 1, 2, 1, 2, 2, 3, 3, 1, 2, 2, 1, 1, 1,
            2, 10, 10, 6, 3, 3, 0, 1, 4, 1, 1,
            3};
        for (int i = 0; i < texts.length; i++) {
            PurseOfNineBowls x = new PurseOfNineBowls();
            due("3: " + texts[i], game(x, texts[i]), -1000 - places[i]);
            due("3: letters are no more behind " + texts[i], x.count(9), 0);
        }
        PurseOfNineBowls x = new PurseOfNineBowls();
        due("3: form ahead of sense", game(x, "f0;bo99;s0;x"), -1011);
        due("3: nothing came", x.count(0), 0);
        for (int what = 11; what <= 16; what++) {
            due("3: no refusal " + what, x.count(what), 0);
        }
        String most = "";
        for (int i = 0; i < 32; i++) {
            most += "t1;";
        }
        due("3: 96 letters", game(x, most), 32);
        due("3: 96 letters that lack one", game(x, most.substring(0, 92) + "bo11"), -1096 + 4);
        due("3: 96 letters that lack their end", game(x, "f4;" + most.substring(3, 93) + "bo1"), -1096);
    }

    // Promise 3: faults of kind 2
    private static void gamesOfSense() {
        String[] texts = {"bo21;", "bo99;", "f0;", "l2;", "l9;", "t2;", "t9;", "c01;", "bo01;c00;", "bo01;c01;",
            "bo01;c10;", "s0;", "bo01;s0;", "bo01;bo00;s1;", "bo01;bo00;s2;", "bo01;bo00;s00;", "f4;l1;t0;f0;l2;",
            "bo01;bo01;bo01;bo01;bo01;bo01;bo01;bo01;bo01;bo01;", "s0;bo01;bo01;", "bo01;bo00;s0;c01;s0;s1;",
            "c01;bo01;bo01;"};
        int[] places = {0, 0, 0, 0, 0, 0, 0, 0, 5, 5,
            5, 0, 5, 10, 10, 10, 9,
            45, 0, 17, 0};
        for (int i = 0; i < texts.length; i++) {
            PurseOfNineBowls x = new PurseOfNineBowls();
            due("3: " + texts[i], game(x, texts[i]), -2000 - places[i]);
            due("3: letters are no more behind " + texts[i], x.count(9), 0);
            for (int what = 0; what <= 7; what++) {
                due("3: nothing came of " + texts[i] + " " + what, x.count(what), what == 6 ? 4 : 0);
            }
            due("3: no refusal by " + texts[i], x.count(11) + x.count(12) + x.count(13) + x.count(14) + x.count(16), 0);
        }
        PurseOfNineBowls x = told("bo01;bo00;l1;t1;f7;");
        due("3: fault behind others", game(x, "f2;l0;t0;c01;s1;bo03;f0;"), -2021);
        beans("3: all as before", x, 1, 0);
        due("3: fullness as before", x.count(6), 7);
        due("3: Lent as before", x.count(7), 1);
        due("3: turn as before", x.count(4), 1);
        due("3: moves as before", x.count(5), 0);
        due("3: purse as before", x.count(2) + x.count(3), 0);
    }

    // Promise 3: games
    private static void gamesThatCome() {
        PurseOfNineBowls x = new PurseOfNineBowls();
        due("3: all kinds", game(x, "bo00;bh20;bd05;bw06;bn01;bq19;f9;l1;t1;"), 9);
        beans("3: beans", x, 0, 20, 5, 6, 1, 19);
        due("3: fullness", x.count(6), 9);
        due("3: Lent", x.count(7), 1);
        due("3: turn", x.count(4), 1);
        due("3: change", game(x, "c15;"), 1);
        beans("3: beans changed", x, 0, 19, 5, 6, 1, 20);
        due("3: kinds not changed", x.bowl(1, 0) * 10 + x.bowl(5, 0), 15);
        due("3: a bowl more", game(x, "bn07;"), 1);
        due("3: its beans", x.bowl(6, 1), 7);
        // (2,0,0): 1 and 2 get one, that of 2 is taken; then 1 gives its one to 2, taken again.
        PurseOfNineBowls y = new PurseOfNineBowls();
        due("3: moves", game(y, "bo02;bo00;bo00;s01;"), 4);
        beans("3: beans behind moves", y, 0, 0, 0);
        due("3: purse 0", y.count(2), 1);
        due("3: purse 1", y.count(3), 1);
        due("3: moves made", y.count(5), 2);
        due("3: turn again", y.count(4), 0);
        PurseOfNineBowls z = told("bo01;bo01;bo00;t1;s1;");
        due("3: those whose turn it is", z.count(3), 1);
        due("3: then the other", z.count(4), 0);
        PurseOfNineBowls v = told("f9;bo01;bo02;");
        // (1,2), (0,3), (2,1), (1,2), and the 1 of the bowl that was empty is taken
        due("3: a bowl may move again", game(v, "s010;"), 1);
        due("3: three moves", v.count(5), 3);
        beans("3: behind three moves", v, 0, 2);
    }

    // Promise 4
    private static void bowls() {
        int[][] from = {{1, 1, -9, 2, 1, 12}, {2, 1, -9, 4, 1, 12}, {5, 3, -9, 10, 3, 12}, {9, 5, -9, 18, 5, 12}};
        int[] fullness = {1, 2, 5, 9};
        PurseOfNineBowls x = told("bo01;bh02;bd03;bw04;bn05;bq06;");
        for (int i = 0; i < fullness.length; i++) {
            x.set(0, fullness[i]);
            for (int b = 0; b < 6; b++) {
                due("4: kind " + b, x.bowl(b, 0), b);
                due("4: beans " + b, x.bowl(b, 1), b + 1);
                due("4: sounds from " + b + " full " + fullness[i], x.bowl(b, 2), from[i][b]);
            }
        }
        due("4: default", told("bn01;").bowl(0, 2), 2);
        x.set(0, 5);
        for (int b = 0; b < 6; b++) {
            x.put(b, 20);
            due("4: takes " + b, x.bowl(b, 3), b == 4 ? 0 : 1);
        }
        x.put(4, 5);
        due("4: narrow takes none from full on", x.bowl(4, 3), 0);
        x.put(4, 4);
        due("4: narrow takes one below", x.bowl(4, 3), 1);
        due("4: nobody", x.bowl(6, 0), -1);
        due("4: nobody below", x.bowl(-1, 9), -1);
        due("4: other", x.bowl(0, 4), -2);
        due("4: other below", x.bowl(0, -1), -2);
        due("4: nobody counted", x.count(11), 2);
        due("4: other counted", x.count(12), 2);
    }

    // Promise 5
    private static void puts() {
        PurseOfNineBowls x = told("bo04;bh02;");
        due("5: was", x.put(1, 20), 2);
        due("5: became", x.bowl(1, 1), 20);
        due("5: was again", x.put(1, 0), 20);
        beans("5: the other stays", x, 4, 0);
        due("5: nobody", x.put(2, 1), -1);
        due("5: nobody ahead of below", x.put(-1, -1), -1);
        due("5: below", x.put(0, -1), -4);
        due("5: above", x.put(0, 21), -6);
        beans("5: nothing changes", x, 4, 0);
        due("5: refusals", x.count(11) * 100 + x.count(14) * 10 + x.count(16), 211);
        due("5: moves", x.count(5), 0);
    }

    // Promise 6
    private static void sets() {
        PurseOfNineBowls x = new PurseOfNineBowls();
        due("6: fullness", x.set(0, 9), 4);
        due("6: fullness again", x.set(0, 1), 9);
        due("6: Lent", x.set(1, 1), 0);
        due("6: Lent again", x.set(1, 0), 1);
        due("6: turn", x.set(2, 1), 0);
        due("6: turn again", x.set(2, 1), 1);
        due("6: as set", x.count(6) * 100 + x.count(7) * 10 + x.count(4), 101);
        due("6: other", x.set(3, 0), -2);
        due("6: other ahead of below", x.set(-1, -1), -2);
        due("6: fullness below", x.set(0, 0), -4);
        due("6: fullness above", x.set(0, 10), -6);
        due("6: Lent below", x.set(1, -1), -4);
        due("6: Lent above", x.set(1, 2), -6);
        due("6: turn below", x.set(2, -1), -4);
        due("6: turn above", x.set(2, 2), -6);
        due("6: as set before", x.count(6) * 100 + x.count(7) * 10 + x.count(4), 101);
        due("6: refusals", x.count(12) * 100 + x.count(14) * 10 + x.count(16), 233);
    }

    // Promise 7
    private static void moves() {
        PurseOfNineBowls x = told("bo02;bo00;bo00;bo00;");
        due("7: a bean taken", x.move(0), 1);
        beans("7: behind", x, 0, 1, 0, 0);
        due("7: purse 0", x.count(2), 1);
        due("7: turn", x.count(4), 1);
        due("7: moves", x.count(5), 1);
        due("7: empty", x.move(0), -3);
        due("7: nobody", x.move(4), -1);
        due("7: nobody below", x.move(-1), -1);
        due("7: turn stays", x.count(4), 1);
        due("7: taken by the other", x.move(1), 1);
        due("7: purse 1", x.count(3), 1);
        due("7: turn back", x.count(4), 0);
        PurseOfNineBowls lent = told("l1;bo02;bo00;bo00;bo00;");
        due("7: left", lent.move(0), 1);
        beans("7: behind, left", lent, 0, 0, 0, 1);
        PurseOfNineBowls round = told("bo00;bo05;bo01;");
        // 2, 0, 1, 2, 0: the bowl they are from gets one, too
        due("7: round", round.move(1), 0);
        beans("7: behind, round", round, 2, 1, 3);
        PurseOfNineBowls one = told("bo05;");
        due("7: one bowl alone", one.move(0), -3);
        beans("7: as it was", one, 5);
        due("7: moves as they were", one.count(5), 0);
        due("7: refused", one.count(13), 1);
    }

    // Terms: kinds, as sowings show them
    private static void kindsSown() {
        PurseOfNineBowls x = told("bo01;bo03;bo00;bo00;bo00;");
        due("kinds: sounds, last was empty", x.move(0), 1);
        beans("kinds: sown on", x, 0, 0, 1, 1, 1);
        PurseOfNineBowls below = told("bo01;bo02;bo00;bo00;bo00;");
        due("kinds: one below sounds not", below.move(0), 0);
        beans("kinds: ends there", below, 0, 3, 0, 0, 0);
        PurseOfNineBowls shallow = told("f5;bo01;bh02;bo00;bo00;bo01;");
        due("kinds: shallow", shallow.by(0, 0), 2);
        due("kinds: shallow below", told("f5;bo01;bh01;bo00;").by(0, 0), 1);
        due("kinds: deaf", told("bo01;bd19;bo00;").by(0, 0), 1);
        due("kinds: deep below", told("bo01;bw06;bo00;").by(0, 0), 1);
        due("kinds: deep", told("bo01;bw07;bo00;").by(0, 0), 2);
        due("kinds: quiet below", told("f9;bo01;bq10;bo00;").by(0, 0), 1);
        due("kinds: quiet", told("f1;bd01;bq11;bd00;").by(0, 0), 2);
        PurseOfNineBowls narrow = told("bo02;bn04;bo01;bo01;");
        due("kinds: narrow passed over", narrow.move(0), 0);
        beans("kinds: behind narrow", narrow, 0, 4, 2, 2);
        PurseOfNineBowls takes = told("f5;bo01;bn02;bo00;bo00;bo00;");
        due("kinds: narrow sounds as shallow", takes.by(0, 0), 2);
    }

    // Terms: the edges of a sowing
    private static void edgesOfSowing() {
        PurseOfNineBowls x = told("f1;bo01;bo00;");
        due("sowing: 60 hands", x.by(0, 0), 60);
        due("sowing: 60 sown", x.by(0, 2), 60);
        due("sowing: last", x.by(0, 1), 0);
        due("sowing: taken though it sounds", x.by(0, 3), 1);
        due("sowing: left", x.by(0, 4), 0);
        PurseOfNineBowls narrow = told("f1;bn05;bn01;");
        due("sowing: rest goes back, hands", narrow.by(0, 0), 60);
        due("sowing: rest goes back, each sown", narrow.by(0, 2), 60);
        due("sowing: rest goes back, last", narrow.by(0, 1), 0);
        due("sowing: more than 1 there", narrow.by(0, 3), 0);
        due("sowing: move", narrow.move(0), 0);
        beans("sowing: all back", narrow, 5, 1);
        PurseOfNineBowls lent = told("f1;l1;bn05;bn01;bn01;");
        due("sowing: rest goes back in Lent, hands", lent.by(0, 0), 60);
        due("sowing: rest goes back in Lent, sown", lent.by(0, 2), 60);
        due("sowing: rest goes back in Lent, behind", lent.behind(0, 0), 5);
        // Each move from 0 gives the deaf bowl 19 and keeps 1, till the deaf one has 95.
        PurseOfNineBowls heap = told("f1;bn20;bd00;");
        for (int i = 1; i <= 5; i++) {
            due("sowing: heap " + i, heap.move(0), 0);
            due("sowing: heaped " + i, heap.bowl(1, 1), 19 * i);
            heap.put(0, 20);
        }
        due("sowing: takes below 99", heap.bowl(1, 3), 1);
        due("sowing: by 5", heap.by(0, 2), 5);
        due("sowing: heap full", heap.move(0), 0);
        beans("sowing: none takes, rest goes back", heap, 16, 99);
        due("sowing: none from 99 on", heap.bowl(1, 3), 0);
        due("sowing: 99 sown, more than once round", heap.by(1, 2), 99);
        due("sowing: was 99", heap.put(1, 0), 99);
    }

    // Promises 8, 9, 10
    private static void inMind() {
        PurseOfNineBowls x = told("bo01;bo03;bo00;bo00;bo00;");
        due("8: hands", x.by(0, 0), 2);
        due("8: last", x.by(0, 1), 0);
        due("8: sown", x.by(0, 2), 5);
        due("8: taken", x.by(0, 3), 1);
        due("8: left", x.by(0, 4), 3);
        due("8: last, other than 0", x.by(1, 1), 4);
        due("9: behind, itself", x.behind(0, 0), 0);
        due("9: behind, next", x.behind(0, 1), 0);
        due("9: behind, on", x.behind(0, 4), 1);
        due("10: empties", x.empties(0), 3);
        due("10: empties by 1", x.empties(1), 2 + 16);
        beans("8: in mind alone", x, 1, 3, 0, 0, 0);
        due("8: turn stays", x.count(4) + x.count(5) + x.count(2), 0);
        due("8: nobody", x.by(5, 5), -1);
        due("8: nobody below", x.by(-1, 0), -1);
        due("8: other", x.by(2, 5), -2);
        due("8: other below", x.by(2, -1), -2);
        due("8: state", x.by(2, 0), -3);
        due("9: nobody", x.behind(5, 0), -1);
        due("9: nobody as other", x.behind(2, 5), -1);
        due("9: nobody below", x.behind(0, -1), -1);
        due("9: state", x.behind(2, 0), -3);
        due("10: nobody", x.empties(5), -1);
        due("10: state", x.empties(2), -3);
        due("8: refusals", x.count(11) * 100 + x.count(12) * 10 + x.count(13), 623);
        PurseOfNineBowls one = told("bo05;");
        due("8: one bowl", one.by(0, 0), -3);
        due("9: one bowl", one.behind(0, 0), -3);
        due("10: one bowl", one.empties(0), -3);
        due("10: the ninth bowl", told("bo00;bo00;bo00;bo00;bo00;bo00;bo00;bo00;bo01;").empties(8), 511);
    }

    // Promise 11
    private static void longest() {
        due("11: none", new PurseOfNineBowls().longest(), -9);
        due("11: one bowl", told("bo05;").longest(), -9);
        due("11: all empty", told("bo00;bo00;").longest(), -9);
        due("11: most sown, not most there", told("bo01;bo03;bo00;bo00;bd04;bo00;").longest(), 0);
        due("11: of several the least", told("f9;bo01;bo02;bo00;bo02;").longest(), 1);
        PurseOfNineBowls x = told("bd01;bd03;bd02;");
        due("11: most", x.longest(), 1);
        beans("11: in mind alone", x, 1, 3, 2);
    }

    // Promises 12, 13
    private static void bestAndWorth() {
        PurseOfNineBowls x = told("bo01;bo00;bo01;bo00;");
        due("12: of several the least", x.best(1), 0);
        due("13: one bean", x.worth(1), 1);
        due("13: each one", x.worth(2), 0);
        due("13: fewer moves", x.worth(3), 0);
        due("13: fewer moves still", x.worth(4), 0);
        // 0 would make 1 have 2, and the other would take; 1 takes, and the other takes, too.
        PurseOfNineBowls y = told("bo01;bo01;bo00;");
        due("12: the better", y.best(1), 1);
        due("12: the better of two moves", y.best(2), 1);
        due("13: y", y.worth(1) * 10 + y.worth(2), 10);
        PurseOfNineBowls z = told("bo01;bo01;");
        due("13: nothing at first", z.worth(1), 0);
        due("13: below 0", z.worth(2), -1);
        due("13: even again", z.worth(3), 0);
        due("12: z", z.best(4), 0);
        PurseOfNineBowls trap = told("f5;bh01;bo04;bo00;bh01;bo00;");
        due("12: ahead of a trap", trap.best(1) * 10 + trap.best(2), plainBest(trap, 1) * 10 + plainBest(trap, 2));
        z.move(0);
        z.move(1);
        due("13: less that now", z.worth(1), 1);
        due("13: turn's own", z.count(2) * 10 + z.count(3), 1);
        PurseOfNineBowls none = told("bo00;bo00;");
        due("12: none", none.best(1), -9);
        due("13: none", none.worth(4), 0);
        due("12: one bowl", told("bo03;").best(2), -9);
        due("12: below", x.best(0), -4);
        due("12: above", x.best(5), -6);
        due("13: below", x.worth(0), 1000000004);
        due("13: above", x.worth(5), 1000000006);
        due("12: far below", none.best(Integer.MIN_VALUE), -4);
        due("13: far above", none.worth(Integer.MAX_VALUE), 1000000006);
        due("13: refusals", x.count(14) * 10 + x.count(16), 22);
        beans("12: in mind alone", x, 1, 0, 1, 0);
    }

    /** The best by moves really made and taken back by the image. */
    private static int plainBest(PurseOfNineBowls x, int n) {
        int found = -9;
        int most = 0;
        for (int b = 0; b < x.count(0); b++) {
            if (x.bowl(b, 1) > 0) {
                x.image();
                int gain = x.move(b);
                if (n > 1) {
                    int other = -9;
                    for (int c = 0; c < x.count(0); c++) {
                        other = x.bowl(c, 1) > 0 ? Math.max(other, x.by(c, 3)) : other;
                    }
                    gain -= Math.max(other, 0);
                }
                x.on();
                if (found < 0 || gain > most) {
                    most = gain;
                    found = b;
                }
            }
        }
        return found;
    }

    // Promise 14
    private static void lost() {
        due("14: no bowls", new PurseOfNineBowls().lost(), 1);
        due("14: one bowl", told("bo09;").lost(), 1);
        due("14: all empty", told("bo00;bd00;").lost(), 1);
        due("14: not", told("bo00;bd01;").lost(), 0);
        due("14: the other's", told("t1;bd01;bo00;").lost(), 0);
    }

    // Promise 15
    private static void back() {
        due("15: at once", told("f1;bn05;bn01;").back(0), 1);
        due("15: 2", told("f3;bw03;bh05;").back(0), 2);
        due("15: 200", told("f1;bh11;bw00;bh07;bd12;bo00;").back(3), 200);
        due("15: 201 is too far", told("f1;l1;bh13;bd08;bo14;bh07;").back(1), -9);
        PurseOfNineBowls x = told("bo02;bo00;bo05;");
        due("15: ends", x.back(0), -9);
        due("15: empty", x.back(1), -9);
        due("15: one bowl", told("bo05;").back(0), -9);
        due("15: nobody", x.back(3), -1);
        due("15: nobody below", x.back(-1), -1);
        beans("15: in mind alone", x, 2, 0, 5);
        PurseOfNineBowls y = told("f1;bn05;bn01;");
        y.move(1);
        y.put(0, 5);
        y.put(1, 1);
        y.empties(0);
        y.put(0, 7);
        due("15: from now", y.back(0), 1);
        y.put(0, 6);
        due("16: from now", y.loop(0, 1), 1);
        due("15: nobody else", told("f1;bn05;bn01;").back(2), -1);
    }

    private static void loops(String text, int bowl, int first, int round) {
        PurseOfNineBowls x = told(text);
        due("16: " + text + bowl + " behind how many", x.loop(bowl, 0), first);
        due("16: " + text + bowl + " how many round", x.loop(bowl, 1), round);
    }

    // Promise 16
    private static void loop() {
        loops("f1;bn05;bn01;", 0, 0, 1);
        loops("f3;bw03;bh05;", 0, 0, 2);
        loops("f1;l1;bn04;bn07;bo05;bo12;bo04;bh10;bn14;", 6, 200, 1);
        loops("f1;bo04;bn12;bo14;bh03;bh05;", 1, -9, -9);
        loops("f2;l1;bh17;bn16;bh13;bh15;", 1, 200, 59);
        loops("f1;l1;bw17;bw13;bd17;bo18;bn08;", 2, 0, 2666);
        loops("bo02;bo00;bo05;", 0, -9, -9);
        loops("bo02;bo00;bo05;", 1, -9, -9);
        loops("bo05;", 0, -9, -9);
        PurseOfNineBowls x = told("f1;bn05;bn01;");
        due("16: nobody", x.loop(2, 2), -1);
        due("16: nobody below", x.loop(-1, 0), -1);
        due("16: other", x.loop(0, 2), -2);
        due("16: other below", x.loop(0, -1), -2);
        beans("16: in mind alone", x, 5, 1);
    }

    private static void empty(String text, int bowl, int many, int first) {
        PurseOfNineBowls x = told(text);
        due("17: " + text + bowl + " how many", x.toEmpty(bowl, 0), many);
        due("17: " + text + bowl + " first", x.toEmpty(bowl, 1), first);
    }

    // Promise 17
    private static void toEmpty() {
        empty("bo00;bo03;", 0, 0, -9);
        empty("bo00;bo03;", 1, 2, 1);
        empty("bo00;", 0, 0, -9);
        empty("bo01;", 0, -9, -9);
        empty("bo01;bo03;bo00;bo00;bo00;", 0, 1, 0);
        // 0 makes 1 sound and so empties it, and 1 itself does; the least counts.
        empty("bo01;bo03;bo00;bo00;bo00;", 1, 1, 0);
        empty("f3;bq07;bq07;", 0, 5, 0);
        empty("f3;bq07;bq07;", 1, 5, 1);
        empty("f2;bh02;bn04;bh01;", 1, 5, 2);
        empty("f5;bh08;bq08;bo09;bo10;", 1, 4, 3);
        empty("f1;bn03;bd09;bo03;bh01;bo03;", 1, 3, 4);
        empty("f1;bh04;bo02;", 0, -9, -9);
        PurseOfNineBowls x = told("bo01;bo03;");
        x.put(0, 0);
        x.put(1, 3);
        due("17: some needed", x.toEmpty(1, 1), 1);
        due("17: none needed", x.toEmpty(0, 1), -9);
        x.put(0, 1);
        due("17: nobody", x.toEmpty(2, 2), -1);
        due("17: nobody below", x.toEmpty(-1, 0), -1);
        due("17: other", x.toEmpty(0, 2), -2);
        due("17: other below", x.toEmpty(0, -1), -2);
        beans("17: in mind alone", x, 1, 3);
        sixMovesAreTooMany();
    }

    /** A ring that six moves empty, and no fewer, so that the limit of five shows. */
    private static void sixMovesAreTooMany() {
        int seen = 0;
        for (int one = 1; one <= 20; one++) {
            for (int other = 1; other <= 20; other++) {
                PurseOfNineBowls x = told("f3;bq00;bq00;");
                x.put(0, one);
                x.put(1, other);
                if (x.toEmpty(0, 0) == -9 && x.toEmpty(0, 1) == -9) {
                    for (int b = 0; b < 2; b++) {
                        x.image();
                        x.move(b);
                        seen += x.toEmpty(0, 0) == 5 ? 1 : 0;
                        x.on();
                    }
                }
            }
        }
        due("17: six moves were met", Math.min(seen, 1), 1);
    }

    // Promises 18, 19
    private static void priceAndSold() {
        // Two moves ahead: (1,0) is worth 1, (2,0) and (0,0) 0, (1,1) -1.
        PurseOfNineBowls x = told("bo01;bo00;");
        due("18: there", x.price(0), -1);
        due("18: where none is", x.price(1), -2);
        due("19: there", x.sold(0), -1);
        due("19: none there", x.sold(1), 1000000003);
        due("18: nobody", x.price(2), 1000000001);
        due("18: nobody below", x.price(-1), 1000000001);
        due("19: nobody", x.sold(2), 1000000001);
        due("19: nobody below", x.sold(-1), 1000000001);
        due("18: refusals", x.count(11) * 10 + x.count(13), 41);
        beans("18: in mind alone", x, 1, 0);
        PurseOfNineBowls y = told("bo00;bo00;");
        due("18: a bean for none", y.price(1), 1);
        PurseOfNineBowls z = told("bo01;bo01;");
        due("19: one less", z.sold(0), 2);
        due("18: one bowl", told("bo01;").price(0), 0);
        due("19: one bowl", told("bo01;").sold(0), 0);
        due("18: one more than 20", told("bo20;bo20;").price(0), 1);
    }

    // Promise 20
    private static void change() {
        due("20: none", new PurseOfNineBowls().change(), -9);
        due("20: one bowl", told("bo01;").change(), -9);
        due("20: none is more", told("bo01;bo00;").change(), -9);
        String[] texts = {"f2;bd09;bw06;bo05;", "f4;bw01;bq01;bn04;bw01;bn01;", "f5;bw00;bh04;bo01;bn04;bd02;",
            "f2;l1;bd05;bn04;bw01;bq05;", "f4;bh04;bh00;bh03;bd00;bq00;bh01;"};
        int[] want = {2, 2, 3, 12, 45};
        for (int i = 0; i < texts.length; i++) {
            PurseOfNineBowls x = told(texts[i]);
            due("20: " + texts[i], x.change(), want[i]);
            due("20: as really changed " + texts[i], x.change(), plainChange(x));
        }
    }

    /** The change by changing really, two and two. */
    private static int plainChange(PurseOfNineBowls x) {
        int found = -9;
        int most = x.worth(2);
        x.image();
        for (int i = 0; i < x.count(0); i++) {
            for (int j = i + 1; j < x.count(0); j++) {
                int kept = x.put(i, x.bowl(j, 1));
                x.put(j, kept);
                if (x.worth(2) > most) {
                    most = x.worth(2);
                    found = 10 * i + j;
                }
                x.on();
            }
        }
        return found;
    }

    // Promise 21
    private static void fair() {
        due("21: no bowls", new PurseOfNineBowls().fair(), 1);
        due("21: one bowl", told("bo07;").fair(), 1);
        due("21: two", told("bo01;bo00;").fair(), 6);
        due("21: none", told("f5;bh03;bh01;").fair(), -9);
        due("21: 9", told("f9;l1;bo00;bq03;bd02;bh03;bq01;bh02;bd01;bw03;").fair(), 9);
        due("21: 10 is too many", told("f9;bw00;bo02;bo01;bd00;bo00;bo02;bq00;bd03;bo00;").fair(), -9);
        PurseOfNineBowls now = told("f5;bh03;bh01;");
        now.set(0, 4);
        due("21: full as now", now.fair(), told("f4;bh00;bh00;").fair());
        String[] texts = {"f5;bh00;bo02;bn01;bo02;", "f1;bh09;bw00;bq01;bd01;", "f4;bq00;bw00;"};
        for (String text : texts) {
            PurseOfNineBowls x = told(text);
            int v = x.fair();
            x.image();
            for (int least = 1; least <= v; least++) {
                for (int b = 0; b < x.count(0); b++) {
                    x.put(b, least);
                }
                due("21: " + text + " with " + least, x.worth(2) == 0 ? 1 : 0, least == v ? 1 : 0);
            }
            x.on();
            due("21: in mind alone", x.fair(), v);
        }
        PurseOfNineBowls x = told("bo01;bo00;");
        x.fair();
        beans("21: in mind alone", x, 1, 0);
    }

    // Promise 22
    private static void sounds() {
        PurseOfNineBowls x = told("bo07;bo00;bo00;");
        told(x, 2, 2, 2);
        due("22: none", x.sounds(0), 1);
        due("22: three", x.sounds(3), 10);
        due("22: the row stays", x.count(8), 3);
        told(x, 0, 0, 0);
        due("22: silent", x.sounds(3), 10);
        due("22: silent, four", x.sounds(4), 12);
        told(x, 1, 0, 0);
        due("22: too few to sound", x.sounds(3), 0);
        due("22: just enough", x.sounds(4), 1);
        due("22: one more", x.sounds(5), 3);
        due("22: below", x.sounds(-1), -4);
        due("22: above", x.sounds(41), -6);
        x.row(0);
        due("22: one too many", x.sounds(3), -3);
        due("22: below ahead of state", x.sounds(-1), -4);
        due("22: above ahead of state", x.sounds(41), -6);
        told(x, 0, 0);
        due("22: one too few", x.sounds(3), -3);
        told(x, 0, 3, 0);
        due("22: above 2", x.sounds(3), -3);
        told(x, 3, 0, 0);
        due("22: the first above 2", x.sounds(3), -3);
        told(x, 0, 0, 9);
        due("22: the last above 2", x.sounds(3), -3);
        due("22: refusals", x.count(13) * 100 + x.count(14) * 10 + x.count(16), 522);
        PurseOfNineBowls two = told("bd00;bq00;");
        told(two, 2, 2);
        due("22: 20 in each", two.sounds(40), 1);
        due("22: 39", two.sounds(39), 2);
        told(two, 1, 2);
        due("22: deaf never sounds", two.sounds(10), 0);
        told(two, 0, 1);
        due("22: quiet from 12 on", two.sounds(20), 9);
        told(two, 0, 0);
        due("22: quiet below 12", two.sounds(20), 12);
        PurseOfNineBowls nine = told("bo00;bh00;bd00;bw00;bn00;bq00;bo00;bo00;bo00;");
        told(nine, 2, 2, 2, 2, 2, 2, 2, 2, 2);
        // 48 over 8, less 9 times 27 over 8 (one bowl above 20).
        due("22: most", nine.sounds(40), 377348994 - 9 * 2220075);
        due("22: no bowls", new PurseOfNineBowls().sounds(0), 1);
        due("22: no bowls, a bean", new PurseOfNineBowls().sounds(1), 0);
    }

    // Promise 23
    private static void next() {
        PurseOfNineBowls x = told("bd00;bo00;");
        told(x, 2, 2);
        due("23: the lesser most", x.next(4), 1);
        due("23: the row stays", x.count(8), 2);
        due("23: as before", x.next(4), 1);
        told(x, 2, 1);
        due("23: known ones aside", x.next(4), 0);
        told(x, 0, 1);
        due("23: none unknown", x.next(4), -9);
        // 10 beans: bowl 0 is silent in 1 way and sounds in 10; bowl 1 in 2 and 9.
        PurseOfNineBowls loud = told("f1;bo00;bw00;");
        told(loud, 2, 2);
        due("23: silence the rarer", loud.next(10), 1);
        PurseOfNineBowls y = told("bo00;bo00;bh00;");
        told(y, 2, 2, 0);
        due("23: of several the least", y.next(6), 0);
        told(y, 0, 2, 2);
        due("23: the shallow one", y.next(6), 2);
        due("23: no way at all", y.next(40), 1);
        due("23: below", y.next(-1), -4);
        due("23: above", y.next(41), -6);
        y.row(2);
        due("23: one too many", y.next(6), -3);
        told(y, 2, 2);
        due("23: one too few", y.next(6), -3);
        told(y, 2, 2, 9);
        due("23: above 2", y.next(6), -3);
        due("23: below ahead of state", y.next(-1), -4);
        due("23: refusals", y.count(13) * 100 + y.count(14) * 10 + y.count(16), 321);
        due("23: no bowls", new PurseOfNineBowls().next(0), -9);
    }

    // Promises 24, 26
    private static void playedAndJudged() {
        PurseOfNineBowls x = told("bo02;bo00;bo00;bo00;");
        due("26: none", x.judge(), -9);
        told(x, 0, 1);
        due("24: own", x.played(0), 1);
        due("24: other's", x.played(1), 1);
        due("24: the row stays", x.count(8), 2);
        due("26: all", x.judge(), -9);
        due("26: the row has none", x.count(8), 0);
        told(x, 0, 0, 1);
        due("24: till then", x.played(0) * 10 + x.played(1), 10);
        due("26: the first", x.judge(), 1);
        due("26: none then", x.count(8), 0);
        told(x, 9);
        due("26: no such bowl", x.judge(), 0);
        told(x, 0, 1, 2);
        due("26: the third", x.judge(), 2);
        beans("26: in mind alone", x, 2, 0, 0, 0);
        due("24: without a row", x.played(0), 0);
        x.move(0);
        due("24: what is there", x.played(0), 1);
        due("24: other", x.played(2), -2);
        due("24: other below", x.played(-1), -2);
        due("24: refusals", x.count(12), 2);
        PurseOfNineBowls one = told("bo05;");
        told(one, 0);
        due("26: one bowl", one.judge(), 0);
        told(x, 1);
        due("24: from now", x.played(1), 1);
    }

    // Promise 25
    private static void rows() {
        PurseOfNineBowls x = new PurseOfNineBowls();
        due("25: least", x.row(0), 1);
        due("25: greatest", x.row(9), 2);
        due("25: below", x.row(-1), -4);
        due("25: above", x.row(10), -6);
        for (int i = 3; i <= 12; i++) {
            due("25: " + i, x.row(3), i);
        }
        due("25: no room", x.row(3), -6);
        due("25: below ahead of no room", x.row(-1), -4);
        due("25: held", x.count(8), 12);
        due("25: refusals", x.count(14) * 10 + x.count(16), 22);
        due("25: judged", x.judge(), 0);
        due("25: from the start again", x.row(1), 1);
    }

    // Promise 27
    private static void lots() {
        PurseOfNineBowls x = told("bo01;bo00;");
        for (int z : new int[] {0, 1, 7, -1, 12345, Integer.MIN_VALUE, Integer.MAX_VALUE}) {
            due("27: one game, seed " + z, x.lots(1, z), takenByLot(z));
        }
        beans("27: in mind alone", x, 1, 0);
        due("27: games go on with the seed", told("bo01;bo00;").lots(4, 7), 4);
        for (int z = 0; z < 20; z++) {
            due("27: twenty games, seed " + z, x.lots(20, z), takenByLots(20, z));
        }
        PurseOfNineBowls empty = told("bo00;bo00;bo00;");
        due("27: nothing there", empty.lots(20, 5), 0);
        due("27: purses that are there", told("bo01;bo00;s0;").lots(20, 5), -20);
        due("27: turn's own", told("bo01;bo00;s0;t0;").lots(20, 5), 20);
        due("27: below", x.lots(0, 0), 1000000004);
        due("27: above", x.lots(21, 0), 1000000006);
        due("27: far below", x.lots(Integer.MIN_VALUE, 0), 1000000004);
        PurseOfNineBowls one = told("bo05;");
        due("27: one bowl", one.lots(1, 0), 1000000003);
        due("27: below ahead of state", one.lots(0, 0), 1000000004);
        due("27: above ahead of state", one.lots(21, 0), 1000000006);
        due("27: refusals", one.count(13) * 100 + one.count(14) * 10 + one.count(16), 111);
        due("27: no bowls", new PurseOfNineBowls().lots(1, 0), 1000000003);
    }

    private static int takenByLot(int seed) {
        return takenByLots(1, seed);
    }

    /** Of (1,0): whoever's turn it is when bowl 0 is first drawn takes the bean; 1 if it is TURN's. */
    private static int takenByLots(int games, int seed) {
        long z = seed;
        int together = 0;
        for (int game = 0; game < games; game++) {
            int taken = 0;
            for (int i = 0; i < 20; i++) {
                z = (int) (z * 1664525L + 1013904223L);
                if (taken == 0 && (z & 2147483647L) / 256 % 2 == 0) {
                    taken = i % 2 == 0 ? 1 : -1;
                }
            }
            together += taken;
        }
        return together;
    }

    // Promises 28, 29
    private static void images() {
        PurseOfNineBowls x = told("bo02;bo00;bo00;l1;t1;f7;");
        due("29: none", x.on(), -3);
        due("29: refused", x.count(13), 1);
        x.move(0);
        due("28: moves", x.image(), 1);
        x.letter('b');
        x.row(1);
        due("29: a game behind it", game(x, "o01;l0;f2;s2;bn01;"), 5);
        x.letter('b');
        x.letter('x');
        x.move(9);
        due("29: on", x.on(), 1);
        beans("29: as then", x, 0, 0, 1);
        due("29: purses as then", x.count(2) * 10 + x.count(3), 1);
        due("29: turn as then", x.count(4), 0);
        due("29: fullness as then", x.count(6), 7);
        due("29: Lent as then", x.count(7), 1);
        due("29: not the row", x.count(8), 1);
        due("29: not the letters", x.count(9), 2);
        due("29: not the refusals", x.count(11) * 10 + x.count(13), 11);
        x.put(0, 9);
        due("29: the image stays", x.on(), 1);
        beans("29: as then again", x, 0, 0, 1);
        x.put(0, 9);
        due("28: a new one", x.image(), 1);
        x.move(0);
        x.set(0, 3);
        due("29: on from the new one", x.on(), 1);
        beans("29: as at the new one", x, 9, 0, 1);
        due("29: kinds as then", x.bowl(0, 0), 0);
    }

    // Promise 30
    private static void counts() {
        PurseOfNineBowls x = told("f5;l1;t1;bo03;bh20;bd04;");
        due("30: bowls", x.count(0), 3);
        due("30: all beans", x.count(1), 27);
        due("30: turn", x.count(4), 1);
        due("30: fullness", x.count(6), 5);
        due("30: Lent", x.count(7), 1);
        x.row(4);
        x.row(5);
        x.letter('b');
        due("30: row", x.count(8), 2);
        due("30: letters", x.count(9), 1);
        x.put(0, 0);
        x.put(1, 1);
        x.put(2, 0);
        // In Lent 0 gets the one bean, it was empty.
        due("30: taken", x.move(1), 1);
        due("30: purses", x.count(2) * 10 + x.count(3), 1);
        due("30: moves", x.count(5), 1);
        due("30: none", x.count(1), 0);
        int[] others = {-1, 10, 17, Integer.MIN_VALUE, Integer.MAX_VALUE};
        for (int what : others) {
            due("30: another what " + what, x.count(what), -9);
        }
        due("30: no refusal by it", x.count(11) + x.count(12) + x.count(13) + x.count(14) + x.count(15) + x.count(16), 0);
        x.bowl(9, 0);
        x.set(9, 0);
        x.set(9, 0);
        x.move(0);
        x.move(0);
        x.move(0);
        x.best(0);
        x.worth(5);
        x.worth(5);
        due("30: refused -1", x.count(11), 1);
        due("30: refused -2", x.count(12), 2);
        due("30: refused -3", x.count(13), 3);
        due("30: refused -4", x.count(14), 1);
        due("30: refused -5", x.count(15), 0);
        due("30: refused -6", x.count(16), 2);
    }
}
