/** For each promise rows worked out by hand from the document. */
public final class PromisesTest {
    private static final int NONE = -1, BAD = -2, NO = -3, FULL = -4;
    private static final Check check = new Check("PromisesTest");

    private static void due(String what, long got, long want) {
        check.due(what, got, want);
    }

    public static void main(String[] args) {
        newObject();
        street();
        water();
        man();
        write();
        writeGoesOn();
        rub();
        fault();
        typeAndClear();
        readWell();
        readFaults();
        readRefused();
        step();
        kinds();
        undo();
        ofAndIn();
        run();
        stops();
        again();
        rubbed();
        rubbedStopped();
        danger();
        thief();
        thiefStopped();
        shortest();
        seenAndSaid();
        emptied();
        images();
        status();
        countAndDigest();
        check.end();
    }

    private static void newObject() {
        ClaySlips x = new ClaySlips();
        due("1 cells", x.count(0), 6);
        for (int what = 1; what <= 4; what++) {
            due("1 count " + what, x.count(what), 0);
        }
        for (int c = 0; c < 6; c++) {
            due("1 water", x.in(c), 0);
        }
        for (int what = 0; what <= 2; what++) {
            due("1 status", x.status(what), 0);
        }
        due("1 no image", x.from(0), NO);
        due("1 no image", x.from(1), NO);
    }

    private static void street() {
        ClaySlips x = Check.told("street 4;water 1 9;man 0 3;slip 0 \"+>\";");
        x.step();
        x.seen(2, 3);
        x.image(1);
        Check.text(x, "abc");
        due("2 street", x.street(9), 4);
        due("2 street", x.street(2), 9);
        due("2 bad", x.street(1), BAD);
        due("2 bad", x.street(10), BAD);
        due("2 bad", x.street(Integer.MIN_VALUE), BAD);
        due("2 cells", x.count(0), 2);
        due("2 men", x.count(1), 0);
        due("2 number", x.count(2), 0);
        due("2 undone", x.count(3), 0);
        due("2 text stays", x.count(4), 3);
        due("2 water", x.in(1), 0);
        due("2 seen", x.seen(2, 0), 0);
        due("2 status stays", x.status(0), 3);
        due("2 image stays", x.from(1), 1);
        due("2 image stays", x.count(0), 4);
    }

    private static void water() {
        ClaySlips x = new ClaySlips();
        due("3 water", x.water(5, 20), 0);
        due("3 water", x.water(5, 0), 20);
        due("3 water", x.water(0, 7), 0);
        due("3 bad", x.water(6, 0), BAD);
        due("3 bad", x.water(-1, 0), BAD);
        due("3 bad", x.water(0, 21), BAD);
        due("3 bad", x.water(0, -1), BAD);
        due("3 unchanged", x.in(0), 7);
    }

    private static void man() {
        ClaySlips x = new ClaySlips();
        due("4 man", x.man(5, 5), 0);
        due("4 bad", x.man(6, 0), BAD);
        due("4 bad", x.man(-1, 0), BAD);
        due("4 bad", x.man(0, 6), BAD);
        due("4 bad", x.man(0, -1), BAD);
        due("4 man", x.man(0, 0), 1);
        due("4 man", x.man(4, 0), 2);
        due("4 full", x.man(0, 0), FULL);
        due("4 bad ahead of full", x.man(6, 0), BAD);
        due("4 cell", x.of(0, 0), 5);
        due("4 load", x.of(0, 1), 0);
        due("4 place", x.of(0, 2), 0);
        due("4 stopped", x.of(0, 3), 1);
    }

    private static void write() {
        ClaySlips x = new ClaySlips();
        due("5 bad", x.write(0, 0), BAD);
        x.man(0, 0);
        due("5 bad", x.write(0, 14), BAD);
        due("5 bad", x.write(0, -1), BAD);
        due("5 bad", x.write(1, 0), BAD);
        due("5 bad", x.write(-1, 0), BAD);
        for (int k = 1; k <= 24; k++) {
            due("5 write", x.write(0, 4), k);
        }
        due("5 full", x.write(0, 4), FULL);
        due("5 bad ahead of full", x.write(0, 14), BAD);
        due("5 goes", x.of(0, 3), 0);
    }

    private static void writeGoesOn() {
        ClaySlips x = Check.told("street 5;water 0 5;man 0 0;slip 0 \"+>\";");
        Check.steps(x, 3);
        due("5 at the end", x.of(0, 3), 1);
        due("5 write", x.write(0, 1), 3);
        due("5 not any more", x.of(0, 3), 0);
        due("5 place stays", x.of(0, 2), 2);
        due("5 load stays", x.of(0, 1), 1);
        x.step();
        due("5 goes on", x.of(0, 0), 2);
        x.step();
        x.write(0, 7);
        due("5 a fault", x.of(0, 3), 1);
        x.write(0, 9);
        due("5 still a fault", x.of(0, 3), 1);
        x.write(0, 8);
        due("5 none any more", x.of(0, 3), 0);
        x.write(0, 8);
        due("5 a fault anew", x.of(0, 3), 1);
        ClaySlips y = Check.told("street 5;man 0 0;slip 0 \"!>\";");
        due("5 halt", y.step(), 0);
        due("5 place behind !", y.of(0, 2), 1);
        y.write(0, 4);
        due("5 goes behind !", y.step(), 1);
        due("5 goes behind !", y.of(0, 0), 1);
    }

    private static void rub() {
        ClaySlips x = Check.told("street 5;water 0 5;man 0 0;slip 0 \"+>.\";");
        Check.steps(x, 2);
        due("6 bad", x.rub(1), BAD);
        due("6 bad", x.rub(-1), BAD);
        due("6 undone stay", x.count(3), 2);
        due("6 rub", x.rub(0), 3);
        due("6 empty", x.rub(0), 0);
        due("6 place", x.of(0, 2), 0);
        due("6 cell stays", x.of(0, 0), 1);
        due("6 load stays", x.of(0, 1), 1);
        due("6 stopped", x.of(0, 3), 1);
        due("6 fault", x.fault(0), NONE);
        due("6 undone", x.count(3), 0);
        due("6 anew", x.write(0, 0), 1);
        due("6 goes", x.of(0, 3), 0);
        Check.slip(x, 0, ")");
        x.rub(0);
        due("6 fault gone", x.fault(0), NONE);
    }

    private static int faultOf(String signs) {
        ClaySlips x = new ClaySlips();
        x.man(0, 0);
        Check.slip(x, 0, signs);
        return x.fault(0);
    }

    private static void fault() {
        String[] good = {"", "<>+-.!?", "(w)", "(n+)", "(l(e<)>)", "(a)(a)", "((".substring(2) + ".", "(w(n(l(e(a.)))))"};
        for (String signs : good) {
            due("7 " + signs, faultOf(signs), NONE);
        }
        due("7 )", faultOf(")"), 0);
        due("7 w", faultOf("w"), 0);
        due("7 .a", faultOf(".a"), 1);
        due("7 (", faultOf("("), 1);
        due("7 (.", faultOf("(."), 1);
        due("7 ()", faultOf("()"), 1);
        due("7 ((", faultOf("(("), 1);
        due("7 (w", faultOf("(w"), 2);
        due("7 (ww)", faultOf("(ww)"), 2);
        due("7 (w.", faultOf("(w."), 3);
        due("7 (w))", faultOf("(w))"), 3);
        due("7 (w)w", faultOf("(w)w"), 3);
        due("7 (w(n)", faultOf("(w(n)"), 5);
        due("7 <(l>)-(e", faultOf("<(l>)-(e"), 8);
        due("7 24 signs, one lacks", faultOf("(a(a(a(a(a(a(a(a(a(a(a(a"), 24);
        ClaySlips x = new ClaySlips();
        due("7 bad", x.fault(0), -10);
        due("7 bad", x.fault(-1), -10);
        due("7 counts as bad", x.status(0), 2);
    }

    private static void typeAndClear() {
        ClaySlips x = new ClaySlips();
        due("8 bad", x.type(1, 0), BAD);
        due("8 bad", x.type(1, 9), BAD);
        due("8 bad", x.type(1, -8), BAD);
        due("8 type", x.type(0x7374726565742032L, 8), 8);
        due("8 the lowest alone", x.type(0x4142433bL, 1), 9);
        due("10 read", x.read(), 1);
        due("10 the text stays", x.count(4), 9);
        due("9 clear", x.clear(), 9);
        due("9 clear", x.clear(), 0);
        due("9 clear", x.count(4), 0);
        for (int k = 1; k <= 24; k++) {
            due("8 type", x.type(-1, 8), 8 * k);
        }
        due("8 type", x.type(0, 7), 199);
        due("8 full", x.type(0, 2), FULL);
        due("8 unchanged", x.count(4), 199);
        due("8 bad ahead of full", x.type(0, 9), BAD);
        due("8 type", x.type(0, 1), 200);
        due("8 full", x.type(0, 1), FULL);
        due("8 status", x.status(2), 2);
        due("10 a byte that begins none", x.read(), -10);
    }

    private static void readWell() {
        ClaySlips x = new ClaySlips();
        x.man(0, 0);
        x.water(1, 3);
        x.seen(1, 4);
        x.step();
        Check.text(x, " street05 ;water 4 20;man 3 1;man 5 4;slip1\"(w+)!\";slip 0 \"<>\";slip 0 \"?\"; ");
        due("10 items", x.read(), 7);
        due("10 cells", x.count(0), 5);
        due("10 men", x.count(1), 2);
        due("10 number", x.count(2), 0);
        due("10 undone", x.count(3), 0);
        due("10 water", x.in(1), 0);
        due("10 water", x.in(4), 20);
        due("10 cell", x.of(1, 0), 4);
        due("10 seen", x.seen(1, 0), 0);
        due("10 slips of one man go on", x.rub(0), 3);
        due("10 slip", x.rub(1), 5);
        due("10 street alone", Check.reads("street 9;"), 1);
        due("10 quote", Check.reads("street 9;man 0 0;slip 0 \"......................!?\";"), 3);
    }

    private static void readFaults() {
        due("10 empty", Check.reads(""), -10);
        due("10 blanks", Check.reads("   "), -13);
        due("10 no street", Check.reads("man 0 0;"), -10);
        due("10 no word", Check.reads(" streets 2;"), -11);
        due("10 early", Check.reads("street"), -16);
        due("10 early", Check.reads("street 2 "), -19);
        due("10 street again", Check.reads("street 2;street 2;"), -19);
        due("10 figure", Check.reads("street 123;"), -17);
        due("10 number again", Check.reads("street 1 2;"), -19);
        due("10 word for number", Check.reads("street man;"), -17);
        due("10 no number", Check.reads("street;"), -16);
        due("10 ;;", Check.reads("street 2;;"), -19);
        due("10 capital", Check.reads("street 2;Man 0 0;"), -19);
        due("10 byte", Check.reads("street 2;water 0,0;"), -26);
        due("10 line end", Check.reads("street 2;\n"), -19);
        due("10 two words", Check.reads("street 2;waterman 0 0;"), -19);
        due("10 man early", Check.reads("street 2;man 0"), -24);
        due("10 slip no word", Check.reads("street 2;slip 0;"), -25);
        due("10 slip number", Check.reads("street 2;slip 0 1;"), -26);
        due("10 empty quote", Check.reads("street 2;slip 0 \"\";"), -26);
        due("10 no second quote", Check.reads("street 2;slip 0 \"++"), -26);
        due("10 byte in quote", Check.reads("street 2;slip 0 \"+ +\";"), -26);
        due("10 25 signs", Check.reads("street 2;slip 0 \"........................." + "\";"), -26);
        due("10 24 signs", Check.reads("street 2;man 0 0;slip 0 \"........................" + "\";"), 3);
        due("10 quote for number", Check.reads("street \"+\";"), -17);
        due("10 two quotes", Check.reads("street 2;slip 0 \"+\"\"-\";"), -29);
        due("10 a fault ahead of a refusal", Check.reads("street 1;man"), -22);
    }

    private static void readRefused() {
        due("10 street 1", Check.reads("street 1;"), -1000);
        due("10 street 10", Check.reads("street 10;"), -1000);
        due("10 water", Check.reads("street 2;water 2 0;"), -1001);
        due("10 water", Check.reads("street 2;water 1 21;"), -1001);
        due("10 kind", Check.reads("street 2;man 6 0;"), -1001);
        due("10 no man", Check.reads("street 2;slip 0 \"+\";man 0 0;"), -1001);
        due("10 four men", Check.reads("street 2;man 0 0;man 0 0;man 0 0;man 0 0;water 9 9;"), -1004);
        ClaySlips x = new ClaySlips();
        x.man(2, 3);
        x.step();
        long ahead = x.digest();
        Check.text(x, "street 2;man 0 0;slip 0 \"........................" + "\";slip 0 \".\";");
        due("10 a slip too long", x.read(), -1003);
        due("10 items are none", x.status(0) + x.status(1) + x.status(2), 0);
        x.clear();
        due("10 nothing changes", x.digest(), ahead);
        Check.text(x, "street 2;x");
        due("10 fault", x.read(), -19);
        due("10 a fault is none", x.status(0) + x.status(1) + x.status(2), 0);
        x.clear();
        due("10 nothing changes", x.digest(), ahead);
    }

    private static void step() {
        ClaySlips x = Check.told("street 3;water 0 1;water 2 20;man 0 0;slip 0 \"<++>>>-.(w!)\";");
        long[][] due = {{0, 0, 1}, {0, 1, 2}, {0, 1, 3}, {1, 1, 4}, {2, 1, 5}, {2, 1, 6}, {2, 1, 7}, {2, 1, 8},
            {2, 1, 10}, {2, 1, 11}};
        for (int k = 0; k < due.length; k++) {
            due("11 step", x.step(), k == due.length - 1 ? 0 : 1);
            for (int what = 0; what < 3; what++) {
                due("11 after step " + (k + 1) + " of " + what, x.of(0, what), due[k][what]);
            }
        }
        due("11 full cell", x.in(2), 20);
        due("11 number", x.count(2), 10);
        due("11 stopped", x.step(), 0);
        due("11 stays", x.of(0, 2), 11);
        due("11 number", x.count(2), 11);
        loops();
        waits();
    }

    private static void loops() {
        ClaySlips x = Check.told("street 3;water 0 2;man 0 0;slip 0 \"(w+)(l-(e>))\";");
        int[] places = {2, 3, 0, 2, 3, 0, 4, 6, 7, 11, 4, 6, 7, 9, 10, 7, 9, 10, 7};
        for (int k = 0; k < places.length; k++) {
            x.step();
            due("11 loop place " + k, x.of(0, 2), places[k]);
        }
        ClaySlips y = Check.told("street 3;water 0 1;man 0 0;slip 0 \"(n)(w)\";");
        int[] again = {3, 5, 3, 5, 3};
        for (int k = 0; k < again.length; k++) {
            y.step();
            due("11 empty loop " + k, y.of(0, 2), again[k]);
        }
    }

    private static void waits() {
        ClaySlips x = Check.told("street 3;man 0 1;man 0 0;man 3 2;slip 0 \"?<\";slip 1 \".>?\";slip 2 \"?!\";");
        due("11 waits", x.step(), 3);
        due("11 waits", x.of(0, 2), 0);
        due("11 deaf", x.of(2, 2), 1);
        due("11 order", x.step(), 2);
        due("11 not yet: he comes behind", x.of(0, 2), 0);
        due("11 come", x.of(1, 0), 1);
        due("11 both are there", x.step(), 2);
        due("11 went on", x.of(0, 2), 1);
        due("11 went on", x.of(1, 2), 3);
        due("11 end", x.step(), 1);
        due("11 end", x.step(), 0);
        due("11 last", x.of(0, 0), 0);
    }

    private static void kinds() {
        int[][] loads = {{0, 1, 2, 3}, {0, 2, 4, 5}, {0, 1, 2, 3}, {0, 1, 2, 3}, {0, 5, 5, 5}, {0, 1, 2, 3}};
        for (int kind = 0; kind < 6; kind++) {
            ClaySlips x = new ClaySlips();
            x.man(kind, 0);
            x.water(0, 5);
            Check.slip(x, 0, "+++");
            for (int k = 0; k <= 3; k++) {
                due("11 load of " + kind, x.of(0, 1), loads[kind][k]);
                x.step();
            }
        }
        for (int kind = 0; kind < 6; kind++) {
            ClaySlips x = new ClaySlips();
            x.man(kind, 1);
            Check.slip(x, 0, ">><<?");
            Check.steps(x, 2);
            due("11 way of " + kind, x.of(0, 0), kind == 2 || kind == 5 ? 2 : 3);
            Check.steps(x, 2);
            due("11 way of " + kind, x.of(0, 0), 1);
            Check.steps(x, 1);
            due("11 waiting of " + kind, x.of(0, 2), kind == 3 ? 5 : 4);
        }
        ClaySlips x = new ClaySlips();
        x.man(5, 0);
        x.man(2, 1);
        x.water(0, 20);
        x.water(1, 20);
        Check.slip(x, 0, "++++++++++++++--------");
        Check.slip(x, 1, "++++++++++++++--------");
        Check.steps(x, 14);
        due("11 pious", x.of(0, 1), 12);
        due("11 lame", x.of(1, 1), 14);
        due("11 pious goes on", x.of(0, 2), 14);
        Check.steps(x, 6);
        due("11 pious", x.of(0, 1), 6);
        x.step();
        due("11 pious puts none", x.of(0, 1), 6);
        due("11 pious goes on", x.of(0, 2), 21);
        greedyIsFull();
    }

    private static void greedyIsFull() {
        ClaySlips x = new ClaySlips();
        x.man(4, 0);
        x.water(0, 15);
        x.water(1, 15);
        Check.slip(x, 0, "+>+-<-");
        Check.steps(x, 3);
        due("11 greedy is full", x.of(0, 1), 20);
        due("11 greedy leaves", x.in(1), 10);
        Check.steps(x, 3);
        due("11 greedy puts one", x.in(1), 11);
        due("11 greedy puts one", x.in(0), 1);
        ClaySlips y = new ClaySlips();
        y.man(1, 0);
        y.water(0, 20);
        Check.slip(y, 0, "+++++++++-++");
        Check.steps(y, 11);
        due("11 strong", y.of(0, 1), 19);
        y.write(0, 2);
        y.step();
        due("11 strong is full", y.of(0, 1), 20);
        due("11 strong is full", y.in(0), 0);
        ClaySlips z = Check.told("street 2;water 0 20;man 4 0;slip 0\"+\";");
        z.step();
        due("11 greedy takes all", z.of(0, 1), 20);
    }

    private static void undo() {
        ClaySlips x = Check.told("street 4;water 0 9;man 1 0;man 0 3;slip 0 \"+>-!\";slip 1 \"?\";");
        due("12 none", x.undo(), NO);
        long[] digests = new long[5];
        for (int k = 0; k < 5; k++) {
            digests[k] = x.digest();
            x.step();
        }
        for (int k = 4; k >= 0; k--) {
            due("12 undo", x.undo(), 1);
            due("12 as ahead", x.digest(), digests[k]);
        }
        due("12 none", x.undo(), NO);
        due("12 counts as no", x.status(1), 2);
        Check.steps(x, 23);
        due("12 twenty", x.count(3), 20);
        for (int k = 0; k < 20; k++) {
            due("12 undo", x.undo(), 1);
        }
        due("12 no more", x.undo(), NO);
        due("12 number", x.count(2), 3);
        due("12 load", x.of(0, 1), 1);
        Check.steps(x, 2);
        x.undo();
        Check.steps(x, 1);
        due("12 mixed", x.count(3), 2);
        due("12 mixed", x.count(2), 5);
        undoLeft();
    }

    private static void undoLeft() {
        for (int change = 0; change < 7; change++) {
            ClaySlips x = Check.told("street 4;man 0 0;slip 0 \"..\";");
            x.step();
            Check.text(x, "street 4;");
            switch (change) {
                case 0: x.water(0, 0); break;
                case 1: x.man(0, 0); break;
                case 2: x.write(0, 0); break;
                case 3: x.rub(0); break;
                case 4: x.street(4); break;
                case 5: x.read(); break;
                default: x.seen(1, 1); x.run(3, 0, 0); x.stops(); x.again(0); x.danger(0); x.water(9, 9);
            }
            due("12 left by " + change, x.count(3), change == 6 ? 1 : 0);
            due("12 left by " + change, x.undo(), change == 6 ? 1 : NO);
            due("12 SAID's cells are no step", x.seen(1, 0), change == 6 ? 1 : 0);
        }
    }

    private static void ofAndIn() {
        ClaySlips x = Check.told("street 4;water 3 7;man 4 3;slip 0 \"+<\";");
        Check.steps(x, 2);
        due("13 cell", x.of(0, 0), 2);
        due("13 load", x.of(0, 1), 7);
        due("13 place", x.of(0, 2), 2);
        due("13 goes", x.of(0, 3), 0);
        x.step();
        due("13 stopped", x.of(0, 3), 1);
        due("13 bad", x.of(1, 0), BAD);
        due("13 bad", x.of(-1, 0), BAD);
        due("13 bad", x.of(0, 4), BAD);
        due("13 bad", x.of(0, -1), BAD);
        x.water(2, 11);
        due("14 in", x.in(2), 11);
        due("14 in", x.in(3), 0);
        due("14 bad", x.in(4), BAD);
        due("14 bad", x.in(-1), BAD);
    }

    private static void run() {
        ClaySlips x = Check.told("street 3;water 0 2;man 0 0;man 0 2;slip 0 \"(w+>-<)\";slip 1 \"(a.)\";");
        long ahead = x.digest();
        due("15 none", x.run(0, 0, 0), 2);
        due("15 one loop", x.run(4, 1, 0), 1);
        due("15 two loops", x.run(10, 1, 0), 2);
        due("15 all", x.run(400, 1, 0), 2);
        due("15 awake", x.run(13, 0, 1), 2);
        due("15 awake", x.run(14, 0, 1), 1);
        due("15 awake", x.run(400, 0, 1), 1);
        due("15 bad", x.run(401, 0, 0), -10);
        due("15 bad", x.run(-1, 0, 0), -10);
        due("15 bad", x.run(0, 3, 0), -10);
        due("15 bad", x.run(0, -1, 0), -10);
        due("15 bad", x.run(0, 1, 1), -10);
        due("15 bad", x.run(0, 0, 2), -10);
        due("15 bad", x.run(0, 0, -1), -10);
        due("15 nothing changes", x.digest(), ahead);
        due("15 counts as bad", x.status(0), 7);
    }

    private static void stops() {
        ClaySlips x = new ClaySlips();
        due("16 nobody", x.stops(), 0);
        x.man(0, 0);
        due("16 empty", x.stops(), 0);
        x.write(0, 4);
        due("16 one", x.stops(), 2);
        x.write(0, 5);
        due("16 halt", x.stops(), 2);
        x.write(0, 8);
        due("16 fault", x.stops(), 0);
        ClaySlips y = Check.told("street 2;man 0 0;slip 0 \"(a)\";");
        due("16 never", y.stops(), NONE);
        atTheLimit();
    }

    /** Nineteen loops of 21 steps, one step out of them, and one to stop at the end. */
    private static void atTheLimit() {
        ClaySlips x = Check.told("street 2;water 0 19;man 0 0;slip 0 \"(w+>-<...............)\";");
        due("16 in 401", x.stops(), NONE);
        due("15 in 401", x.run(400, 0, 1), 1);
        x.step();
        due("16 in 400", x.stops(), 400);
        due("15 in 400", x.run(400, 0, 1), 0);
        due("18 one dot less", x.rubbed(0, 8), 1);
        due("20 by a fault he stops", x.thief(0, 0), 10);
        due("20 a sign more is too long, but behind", x.thief(0, 1), 0);
        due("21 others stop within 400 steps", Check.told("street 2;man 0 0;").shortest(0, 0, 0, NONE), 0);
        Check.steps(x, 13);
        due("17 not within 400", x.again(0), NONE);
        x.step();
        due("17 within 400", x.again(0), 400);
        due("17 within 400", x.again(1), 386);
        Check.steps(x, 5);
        due("16 in 381", x.stops(), 381);
    }

    private static void again() {
        ClaySlips x = new ClaySlips();
        due("17 nobody", x.again(0), 14);
        due("17 nobody", x.again(1), 0);
        due("17 nobody", x.again(2), 0);
        due("17 bad", x.again(3), -10);
        due("17 bad", x.again(-1), -10);
        x.man(0, 0);
        x.man(3, 1);
        x.man(0, 2);
        Check.slip(x, 0, ".?");
        Check.slip(x, 1, "(a?)");
        Check.slip(x, 2, "?");
        due("17 t", x.again(0), 43);
        due("17 s", x.again(1), 1);
        due("17 waiting", x.again(2), 5);
        ClaySlips y = Check.told("street 2;water 0 20;water 1 1;man 0 0;slip 0 \"(w+>-<..........)...\";");
        due("17 all stop at last", y.stops(), 20 * 16 + 5);
        due("17 t", y.again(0), 20 * 16 + 5 + 14);
        due("17 s", y.again(1), 20 * 16 + 5);
        ClaySlips z = Check.told("street 2;water 0 20;man 0 0;slip 0 \"(w+>................<)\";");
        due("17 nothing comes again", z.again(0), NONE);
        due("17 nothing comes again", z.again(1), NONE);
        due("17 nothing comes again", z.again(2), NONE);
    }

    private static void rubbed() {
        ClaySlips x = Check.told("street 3;water 0 3;man 0 0;slip 0 \"(w+).>\";");
        due("18 fault", x.rubbed(0, 0), 0);
        due("18 fault", x.rubbed(0, 1), 0);
        due("18 for ever", x.rubbed(0, 2), 3);
        due("18 fault", x.rubbed(0, 3), 0);
        due("18 as with it", x.rubbed(0, 4), 1);
        due("18 other", x.rubbed(0, 5), 2);
        due("18 bad", x.rubbed(0, 6), BAD);
        due("18 bad", x.rubbed(0, -1), BAD);
        due("18 bad", x.rubbed(1, 0), BAD);
        due("18 bad", x.rubbed(-1, 0), BAD);
        ClaySlips y = Check.told("street 3;man 0 1;slip 0 \".<>\";");
        y.step();
        due("18 place one less", y.rubbed(0, 0), 1);
        due("18 his own place", y.rubbed(0, 1), 2);
        due("18 above", y.rubbed(0, 2), 2);
        ClaySlips w = Check.told("street 2;water 0 1;man 0 0;man 0 0;slip 0 \"+\";slip 1 \".+\";");
        due("18 the other has it", w.rubbed(0, 0), 2);
        ClaySlips v = Check.told("street 2;man 0 0;man 0 1;slip 0 \".(a.)\";");
        due("18 never, with it and without it", v.rubbed(0, 0), 3);
        ClaySlips u = Check.told("street 2;man 0 0;slip 0 \"?\";man 0 1;slip 1\".\";");
        due("18 all stop without it alone", u.rubbed(0, 0), 2);
        ClaySlips z = Check.told("street 3;man 0 1;slip 0 \"?\";");
        due("18 empty then", z.rubbed(0, 0), 2);
    }

    private static void rubbedStopped() {
        ClaySlips x = Check.told("street 3;man 0 1;slip 0 \"!<\";");
        x.step();
        due("18 stopped by !", x.rubbed(0, 0), 1);
        ClaySlips y = Check.told("street 3;man 0 1;slip 0 \")<\";");
        due("18 by a fault alone he goes", y.rubbed(0, 0), 2);
        due("18 fault stays", y.rubbed(0, 1), 0);
        ClaySlips z = Check.told("street 3;man 0 1;slip 0 \"!\";");
        z.step();
        Check.slip(z, 0, ")>");
        due("18 both", z.rubbed(0, 1), 1);
        ClaySlips w = Check.told("street 3;man 0 1;slip 0 \".\";");
        Check.steps(w, 2);
        Check.slip(w, 0, ")>");
        due("18 at the end, too", w.rubbed(0, 1), 1);
    }

    private static void danger() {
        ClaySlips x = Check.told("street 3;water 0 3;man 0 0;slip 0 \"(w+).>\";");
        due("19 danger", x.danger(0), 5);
        due("19 bad", x.danger(1), BAD);
        due("19 bad", x.danger(-1), BAD);
        x.man(0, 1);
        due("19 empty", x.danger(1), 0);
        Check.slip(x, 1, "..<.");
        due("19 one", x.danger(1), 1);
    }

    private static void thief() {
        ClaySlips x = Check.told("street 3;water 0 3;man 0 0;slip 0 \"+>-\";");
        due("20 most in 0: he leaves it", x.thief(0, 0), 1);
        due("20 most in 1", x.thief(0, 1), 0);
        due("20 most in 2: one cell on", x.thief(0, 2), 11);
        due("20 bad", x.thief(0, 3), BAD);
        due("20 bad", x.thief(0, -1), BAD);
        due("20 bad", x.thief(1, 0), BAD);
        due("20 bad", x.thief(-1, 0), BAD);
        ClaySlips y = Check.told("street 2;water 0 2;man 0 0;man 0 1;slip 0 \"(a-)\";");
        due("20 only ! and faults", y.thief(0, 0), 5);
        ClaySlips z = Check.told("street 2;man 0 0;man 0 1;slip 0 \".\";slip 1 \"(a)\";");
        due("20 none", z.thief(0, 0), NONE);
        ClaySlips w = Check.told("street 2;man 0 0;slip 0 \"........................" + "\";");
        due("20 24 signs", w.thief(0, 0), BAD);
        w.rub(0);
        Check.slip(w, 0, ".......................");
        due("20 23 signs", w.thief(0, 0), 0);
        ClaySlips v = Check.told("street 3;water 1 4;man 0 1;slip 0 \"+<-\";");
        v.step();
        due("20 place above, and at his place", v.thief(0, 1), 11);
        due("20 the first of the signs", v.thief(0, 0), 0);
        due("20 empty", Check.told("street 2;water 0 1;man 0 0;").thief(0, 1), 0);
    }

    private static void thiefStopped() {
        ClaySlips x = Check.told("street 3;water 1 4;man 0 1;slip 0 \"+\";");
        Check.steps(x, 2);
        due("20 at the end he stays so", x.thief(0, 1), 0);
        ClaySlips y = Check.told("street 3;water 1 4;man 0 1;slip 0 \"+(\";");
        due("20 a fault stays", y.thief(0, 1), 0);
    }

    private static void shortest() {
        ClaySlips x = Check.told("street 3;water 0 3;man 0 0;slip 0 \"(a)\";");
        due("21 none needed", x.shortest(0, 0, 3, NONE), 0);
        due("21 none needed", x.shortest(0, 0, 3, 0), -5);
        due("21 one", x.shortest(0, 0, 2, NONE), 1);
        due("21 one", x.shortest(0, 0, 2, 0), 2);
        due("21 one", x.shortest(0, 0, 2, 1), -5);
        due("21 far", x.shortest(0, 2, 1, NONE), 4);
        int[] signs = {2, 1, 1, 3};
        for (int i = 0; i < 4; i++) {
            due("21 sign", x.shortest(0, 2, 1, i), signs[i]);
        }
        due("21 no more", x.shortest(0, 2, 1, 4), -5);
        due("21 no more", x.shortest(0, 2, 1, Integer.MAX_VALUE), -5);
        due("21 none", x.shortest(0, 0, 4, NONE), NONE);
        due("21 none", x.shortest(0, 0, 4, 0), NONE);
        int[][] bad = {{1, 0, 0, 0}, {-1, 0, 0, 0}, {0, 3, 0, 0}, {0, -1, 0, 0}, {0, 0, 21, 0}, {0, 0, -1, 0},
            {0, 0, 0, -2}};
        for (int[] b : bad) {
            due("21 bad", x.shortest(b[0], b[1], b[2], b[3]), -10);
        }
        due("21 counts as bad", x.status(0), 7);
        ClaySlips five = Check.told("street 3;water 0 3;man 1 0;");
        due("21 five", five.shortest(0, 2, 2, NONE), 5);
        due("21 the fifth", five.shortest(0, 2, 2, 4), 3);
        due("21 six are too long", x.shortest(0, 2, 2, NONE), NONE);
        ClaySlips y = Check.told("street 3;water 0 3;man 0 0;slip 0 \"+\";");
        Check.steps(y, 2);
        due("21 he goes anew", y.shortest(0, 1, 1, NONE), 2);
        ClaySlips z = Check.told("street 3;water 0 3;man 0 0;man 0 1;slip 1 \"?+\";");
        z.water(1, 1);
        due("21 another waits", z.shortest(0, 1, 0, NONE), 1);
        due("21 another waits", z.shortest(0, 1, 0, 0), 1);
    }

    private static void seenAndSaid() {
        ClaySlips x = Check.told("street 3;man 0 0;man 2 1;slip 0 \"!\";");
        due("22 seen", x.seen(1, 1), 0);
        due("22 seen", x.seen(1, 2), 1);
        due("22 seen", x.seen(4, 2), 0);
        due("22 bad", x.seen(0, 0), BAD);
        due("22 bad", x.seen(5, 0), BAD);
        due("22 bad", x.seen(1, 3), BAD);
        due("22 bad", x.seen(1, -1), BAD);
        due("23 none", x.said(0, 1), 0);
        x.seen(1, 0);
        x.seen(2, 1);
        x.seen(3, 2);
        due("23 stays", x.said(0, 1), 4);
        due("23 goes", x.said(0, 2), 4);
        due("23 goes", x.said(0, 3), 4);
        due("23 end", x.said(0, 4), 16);
        due("23 lame", x.said(1, 1), 1);
        due("23 lame in an odd step", x.said(1, 2), 0);
        x.seen(2, 0);
        due("23 lame in an odd step", x.said(1, 2), 5);
        x.step();
        due("23 by the number", x.said(1, 1), 0);
        due("23 he goes anew", x.said(0, 1), 4);
        due("23 bad", x.said(2, 1), BAD);
        due("23 bad", x.said(-1, 1), BAD);
        due("23 bad", x.said(0, 0), BAD);
        due("23 bad", x.said(0, 5), BAD);
    }

    private static void emptied() {
        ClaySlips x = Check.told("street 3;water 0 20;man 0 0;man 0 0;man 0 0;"
            + "slip 0 \"++++++++++++\";slip 1 \"(a.)\";slip 2 \"------------\";");
        due("24 most", x.emptied(2, 0, NONE), 18);
        due("24 first", x.emptied(2, 0, 0), 0);
        due("24 second", x.emptied(2, 0, 1), 1);
        due("24 third", x.emptied(2, 0, 2), 2);
        due("24 not so many", x.emptied(2, 0, 3), -5);
        due("24 not so many", x.emptied(2, 0, Integer.MAX_VALUE), -5);
        due("24 none told", x.emptied(0, 0, NONE), 20);
        due("24 of like ones the first", x.emptied(0, 0, 0), 0);
        due("24 bad", x.emptied(61, 0, 0), -10);
        due("24 bad", x.emptied(-1, 0, 0), -10);
        due("24 bad", x.emptied(1, 3, 0), -10);
        due("24 bad", x.emptied(1, -1, 0), -10);
        due("24 bad", x.emptied(1, 0, -2), -10);
        ClaySlips y = Check.told("street 3;water 0 20;man 0 0;man 0 0;slip 0 \"(a.)\";slip 1 \"++++++++++++\";");
        due("24 the other first", y.emptied(3, 0, NONE), 17);
        due("24 the other first", y.emptied(3, 0, 0), 1);
        due("24 the other first", y.emptied(3, 0, 1), 0);
        due("24 two", y.emptied(3, 0, 2), -5);
        due("24 sixty", y.emptied(60, 0, NONE), 8);
        due("24 nobody", new ClaySlips().emptied(60, 0, NONE), 0);
    }

    private static void images() {
        ClaySlips x = Check.told("street 3;water 0 5;man 0 0;slip 0 \"+>-.\";");
        x.seen(3, 2);
        Check.steps(x, 2);
        long kept = x.digest();
        due("25 image", x.image(0), 1);
        due("25 bad", x.image(2), BAD);
        due("25 bad", x.image(-1), BAD);
        due("26 bad", x.from(2), BAD);
        due("26 bad", x.from(-1), BAD);
        due("26 none", x.from(1), NO);
        x.step();
        x.seen(3, 1);
        x.write(0, 5);
        x.image(1);
        long other = x.digest();
        due("26 from", x.from(0), 1);
        due("26 as kept", x.digest(), kept);
        due("26 undone are kept", x.count(3), 2);
        due("26 undone are kept", x.undo(), 1);
        due("26 undone are kept", x.of(0, 0), 0);
        due("26 place", x.of(0, 2), 1);
        due("26 from", x.from(1), 1);
        due("26 as kept", x.digest(), other);
        x.street(9);
        Check.text(x, "x");
        due("26 again", x.from(0), 1);
        due("26 the text is not kept", x.count(4), 1);
        x.clear();
        due("26 as kept", x.digest(), kept);
        due("26 status is not kept", x.status(0), 4);
        x.image(0);
        x.step();
        x.from(0);
        due("25 over the old one", x.digest(), kept);
    }

    private static void status() {
        ClaySlips x = new ClaySlips();
        x.street(0);
        x.fault(0);
        x.undo();
        x.type(0, 9);
        for (int k = 0; k < 4; k++) {
            x.man(0, 0);
        }
        due("27 bad", x.status(0), 3);
        due("27 no", x.status(1), 1);
        due("27 full", x.status(2), 1);
        due("27 another", x.status(3), -1);
        due("27 another", x.status(-1), -1);
        due("27 counts as bad", x.status(0), 5);
        due("27 none is no refusal", x.again(0) + x.fault(0), 13);
        due("27 none is no refusal", x.status(0), 5);
    }

    private static void countAndDigest() {
        ClaySlips x = Check.told("street 3;water 1 5;man 4 1;slip 0 \"+>\";");
        x.step();
        x.seen(2, 1);
        Check.text(x, "ab");
        long[] all = {3, 1, 1, 1, 2, 0, 0, 0, 4, 1, 5, 1, 0, 2, 2, 1, 0, 1, 0, 0};
        for (int what = 0; what <= 4; what++) {
            due("28 count", x.count(what), all[what]);
        }
        due("28 bad", x.count(5), BAD);
        due("28 bad", x.count(-1), BAD);
        long h = 809;
        for (long v : all) {
            h = 31 * h + v;
        }
        due("29 digest", x.digest(), h);
        due("29 constants", ClaySlips.NONE * 1000 + ClaySlips.BAD * 100 + ClaySlips.NO * 10 + ClaySlips.FULL, -1234);
    }
}
