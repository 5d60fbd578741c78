/** Part 1 of the document: each sentence that names a bound, tried at the bound and beyond it. */
public final class StreetBoundsTest {
    private static final int NONE = -1, BAD = -2, FULL = -4;
    private static final Check check = new Check("StreetBoundsTest");

    private static void due(String what, long got, long want) {
        check.due(what, got, want);
    }

    public static void main(String[] args) {
        cells();
        cellsAnew();
        menAnew();
        writeGoes();
        rubOff();
        waterOfCells();
        threeMen();
        loadAtFirst();
        emptySlip();
        twentyFourSigns();
        leftEnd();
        rightEnd();
        fetchNothing();
        fetchFull();
        putNothing();
        putFull();
        nothing();
        haltForEver();
        waitForAnother();
        waitInOrder();
        questions();
        questionsAgain();
        nestedLoops();
        faultPlaces();
        faultLacks();
        faultNone();
        faultStops();
        oneByOne();
        bracketsTakeAStep();
        endStops();
        stoppedStay();
        everyKind();
        strong();
        lame();
        deaf();
        greedy();
        pious();
        check.end();
    }

    /** "CELLS 0 to n less 1 (n 2 .. 9; 6 at first)". */
    private static void cells() {
        ClaySlips first = new ClaySlips();
        due("6 at first", first.count(0), 6);
        due("cell 5 at first", first.in(5), 0);
        due("cell 6 at first", first.in(6), BAD);
        due("n 1", first.street(1), BAD);
        due("n 0", first.street(0), BAD);
        due("n -2", first.street(-2), BAD);
        due("n 10", first.street(10), BAD);
        due("n as before", first.count(0), 6);
        for (int n = 2; n <= 9; n++) {
            ClaySlips x = new ClaySlips();
            due("what n was", x.street(n), 6);
            due("n " + n, x.count(0), n);
            due("cell 0 of " + n, x.in(0), 0);
            due("cell n less 1 of " + n, x.in(n - 1), 0);
            due("cell n of " + n, x.in(n), BAD);
            due("cell -1 of " + n, x.in(-1), BAD);
            due("water in n less 1 of " + n, x.water(n - 1, 1), 0);
            due("water in n of " + n, x.water(n, 1), BAD);
            due("water in -1 of " + n, x.water(-1, 1), BAD);
            due("man in n of " + n, x.man(0, n), BAD);
            due("man in -1 of " + n, x.man(0, -1), BAD);
            due("man in n less 1 of " + n, x.man(0, n - 1), 0);
            due("run, cell n less 1 of " + n, x.run(0, n - 1, 0), 1);
            due("run, cell n of " + n, x.run(0, n, 0), -10);
            due("thief, cell n less 1 of " + n, x.thief(0, n - 1), 0);
            due("thief, cell n of " + n, x.thief(0, n), BAD);
            due("shortest, cell n less 1 of " + n, x.shortest(0, n - 1, 1, NONE), 0);
            due("shortest, cell n of " + n, x.shortest(0, n, 1, NONE), -10);
            due("emptied, cell n less 1 of " + n, x.emptied(0, n - 1, NONE), 1);
            due("emptied, cell n of " + n, x.emptied(0, n, NONE), -10);
            due("seen, cell n less 1 of " + n, x.seen(1, n - 1), 0);
            due("seen, cell n of " + n, x.seen(1, n), BAD);
        }
    }

    /** "n CELLS, nothing else told": what stood beyond a shorter street is gone, too. */
    private static void cellsAnew() {
        ClaySlips x = Check.after(3, "street 9;water 8 5;water 0 4;man 4 8;man 5 0;slip 0\"+<\";slip 1\"(a.)\";");
        for (int i = 1; i <= 4; i++) {
            x.seen(i, 8);
        }
        due("from 9 to 2", x.street(2), 9);
        due("from 2 to 9", x.street(9), 2);
        for (int c = 0; c < 9; c++) {
            due("water of " + c, x.in(c), 0);
        }
        due("nobody", x.count(1), 0);
        due("no man 0", x.of(0, 0), BAD);
        due("number", x.count(2), 0);
        due("none undone", x.count(3), 0);
        for (int i = 1; i <= 4; i++) {
            due("SAID's cell", x.seen(i, 1), 0);
        }
        due("first man", x.man(0, 2), 0);
        check.man("first man", x, 0, 2, 0, 0, 1);
        due("his slip", x.rub(0), 0);
        due("second man", x.man(0, 2), 1);
        due("his slip", x.rub(1), 0);
        ClaySlips y = Check.after(2, "street 3;man 0 0;slip 0\".\";");
        due("refused", y.street(10), BAD);
        check.man("refused: nothing changes", y, 0, 0, 0, 1, 1);
        due("refused: nothing changes", y.count(3), 2);
    }

    /** A man who comes anew has done nothing, whatever stood in his number ahead. */
    private static void menAnew() {
        ClaySlips x = Check.after(1, "street 2;water 0 3;man 0 0;slip 0\"!\";");
        x.street(2);
        x.water(0, 3);
        x.man(4, 0);
        due("his slip is empty, not he by !", x.thief(0, 1), 0);
        x.man(0, 0);
        Check.slip(x, 0, "+>-");
        due("he goes", x.step(), 1);
        ClaySlips y = Check.told("street 2;water 0 3;man 0 0;slip 0\")\";");
        y.street(2);
        y.man(0, 0);
        due("no fault", y.fault(0), NONE);
        ClaySlips z = Check.after(1, "street 2;water 0 1;man 0 0;slip 0\"!\";");
        z.street(2);
        z.water(0, 1);
        z.man(0, 0);
        Check.slip(z, 0, ")+");
        due("by the fault alone he had stopped", z.rubbed(0, 0), 2);
    }

    /** "(PLACE, LOAD stay; he has not stopped any more, if there is no FAULT)". */
    private static void writeGoes() {
        ClaySlips x = Check.after(2, "street 3;water 0 3;man 4 0;slip 0\"+!\";");
        check.man("by !", x, 0, 0, 3, 2, 1);
        due("a sign", x.write(0, 1), 3);
        check.man("place and load stay, he goes", x, 0, 0, 3, 2, 0);
        x.step();
        x.step();
        check.man("at the end", x, 0, 1, 3, 3, 1);
        due("a sign", x.write(0, 1), 4);
        check.man("place and load stay, he goes", x, 0, 1, 3, 3, 0);
        x.step();
        x.step();
        for (char c : "(w".toCharArray()) {
            x.write(0, Check.SIGNS.indexOf(c));
            check.man("not by a fault", x, 0, 2, 3, 4, 1);
        }
        x.write(0, 8);
        check.man("by the last sign", x, 0, 2, 3, 4, 0);
        due("sign 14", x.write(0, 14), BAD);
        check.man("refused, as before", x, 0, 2, 3, 4, 0);
    }

    /** "A SLIP is empty (PLACE 0): how long it was". */
    private static void rubOff() {
        ClaySlips x = Check.after(2, "street 3;water 0 3;man 4 0;man 0 0;slip 0\"+>)\";slip 1\"..\";");
        due("man -1", x.rub(-1), BAD);
        due("man 2", x.rub(2), BAD);
        due("three", x.rub(0), 3);
        check.man("rubbed", x, 0, 0, 0, 0, 1);
        due("the fault is gone", x.fault(0), NONE);
        due("none", x.rub(0), 0);
        check.man("the other goes on", x, 1, 0, 0, 2, 0);
        due("one goes", x.step(), 0);
        ClaySlips y = Check.after(2, "street 3;water 0 3;man 4 0;slip 0\"+>\";");
        due("two", y.rub(0), 2);
        check.man("cell and load stay", y, 0, 1, 3, 0, 1);
        Check.slip(y, 0, ".".repeat(24));
        due("24 again", y.write(0, 4), FULL);
        check.man("goes from its begin", y, 0, 1, 3, 0, 0);
    }

    /** "WATER (0 .. 20 each; 0 at first)". */
    private static void waterOfCells() {
        ClaySlips x = new ClaySlips();
        for (int c = 0; c < 6; c++) {
            due("at first", x.in(c), 0);
            due("20", x.water(c, 20), 0);
            due("21", x.water(c, 21), BAD);
            due("-1", x.water(c, -1), BAD);
            due("as before", x.in(c), 20);
            due("0", x.water(c, 0), 20);
            due("1", x.water(c, 1), 0);
        }
    }

    /** "MEN 0 .. 2, as they come: a KIND, a CELL"; "FULL: 3". */
    private static void threeMen() {
        ClaySlips x = new ClaySlips();
        due("of nobody", x.of(0, 0), BAD);
        for (int i = 0; i < 3; i++) {
            due("kind -1", x.man(-1, 0), BAD);
            due("kind 6", x.man(6, 0), BAD);
            due("as they come", x.man(i, i), i);
            due("of him", x.of(i, 0), i);
            due("of the next", x.of(i + 1, 0), BAD);
        }
        due("a fourth", x.man(0, 0), FULL);
        due("a fourth of kind 5", x.man(5, 5), FULL);
        due("a fourth of kind 6", x.man(6, 0), BAD);
        due("a fourth in cell 6", x.man(0, 6), BAD);
        due("three", x.count(1), 3);
        ClaySlips y = new ClaySlips();
        due("kind 5", y.man(5, 0), 0);
    }

    /** "one carries a LOAD (0 .. 20; 0 at first)". */
    private static void loadAtFirst() {
        for (int kind = 0; kind <= 5; kind++) {
            ClaySlips x = new ClaySlips();
            x.water(0, 20);
            x.man(kind, 0);
            due("at first, kind " + kind, x.of(0, 1), 0);
            Check.slip(x, 0, "(w+)(w+)");
            Check.steps(x, 80);
            due("20, kind " + kind, x.of(0, 1), 20);
            x.water(0, 20);
            x.rub(0);
            Check.slip(x, 0, "+++");
            Check.steps(x, 4);
            due("not above 20, kind " + kind, x.of(0, 1), 20);
            due("water stays, kind " + kind, x.in(0), 20);
        }
    }

    /** "has a SLIP (empty at first)"; "A MAN with an empty SLIP has stopped". */
    private static void emptySlip() {
        ClaySlips x = new ClaySlips();
        x.man(0, 0);
        check.man("empty at first", x, 0, 0, 0, 0, 1);
        due("no fault", x.fault(0), NONE);
        due("stops", x.stops(), 0);
        due("step", x.step(), 0);
        check.man("empty does nothing", x, 0, 0, 0, 0, 1);
        due("no sign to rub off", x.rubbed(0, 0), BAD);
        due("no danger", x.danger(0), 0);
        due("rub", x.rub(0), 0);
        due("one sign", x.write(0, 4), 1);
        due("goes", x.of(0, 3), 0);
    }

    /** "a row of SIGNS (24 at most)"; "FULL: 24". */
    private static void twentyFourSigns() {
        ClaySlips x = new ClaySlips();
        x.man(0, 0);
        due("sign -1", x.write(0, -1), BAD);
        due("sign 14", x.write(0, 14), BAD);
        for (int k = 0; k < 23; k++) {
            x.write(0, 4);
        }
        due("the 24th", x.write(0, 1), 24);
        due("the 25th", x.write(0, 1), FULL);
        due("the 25th bad", x.write(0, 14), BAD);
        due("he does all 24", x.stops(), 25);
        Check.steps(x, 24);
        check.man("he does all 24", x, 0, 1, 0, 24, 0);
        due("full leaves what may be undone", x.write(0, 0), FULL);
        due("full leaves what may be undone", x.count(3), 20);
        due("a step more", x.step(), 0);
        due("full does not let him go", x.write(0, 0), FULL);
        check.man("full does not let him go", x, 0, 1, 0, 24, 1);
        due("how long", x.rub(0), 24);
        ClaySlips y = new ClaySlips();
        y.man(0, 0);
        for (int sign = 0; sign <= 13; sign++) {
            due("sign " + sign, y.write(0, sign), sign + 1);
        }
    }

    /** "< one goes a CELL left (at the street's end he stays)". */
    private static void leftEnd() {
        for (int n = 2; n <= 9; n++) {
            ClaySlips x = Check.told("street " + n + ";man 0 1;slip 0\"<<\";");
            x.step();
            check.man("left", x, 0, 0, 0, 1, 0);
            x.step();
            check.man("at the end, place goes on", x, 0, 0, 0, 2, 0);
        }
    }

    /** "> right (at the street's end he stays)". */
    private static void rightEnd() {
        for (int n = 2; n <= 9; n++) {
            ClaySlips x = Check.told("street " + n + ";man 0 " + (n - 2) + ";slip 0\">>\";");
            x.step();
            check.man("right", x, 0, n - 1, 0, 1, 0);
            x.step();
            check.man("at the end, place goes on", x, 0, n - 1, 0, 2, 0);
        }
    }

    /** "+ fetches one WATER (if there is one ..)". */
    private static void fetchNothing() {
        for (int kind = 0; kind <= 5; kind++) {
            ClaySlips x = Check.after(1, "street 2;water 1 9;man " + kind + " 0;slip 0\"+\";");
            check.man("nothing there, kind " + kind, x, 0, 0, 0, 1, 0);
            due("nothing there", x.in(0), 0);
            due("not from beside", x.in(1), 9);
            ClaySlips y = Check.after(1, "street 2;water 0 1;man " + kind + " 0;slip 0\"+\";");
            check.man("the last, kind " + kind, y, 0, 0, 1, 1, 0);
            due("the last", y.in(0), 0);
        }
    }

    /** ".. (.. and LOAD is less than 20)". */
    private static void fetchFull() {
        ClaySlips x = Check.after(20, "street 2;water 0 20;man 0 0;slip 0\"+++++++++++++++++++++\";");
        due("20", x.of(0, 1), 20);
        x.water(0, 7);
        x.step();
        check.man("no more, place goes on", x, 0, 0, 20, 21, 0);
        due("water stays", x.in(0), 7);
        ClaySlips y = Check.after(19, "street 2;water 0 20;man 0 0;slip 0\"+++++++++++++++++++++\";");
        due("19", y.of(0, 1), 19);
        y.step();
        due("one more", y.of(0, 1), 20);
        due("one more", y.in(0), 0);
    }

    /** "- puts one down (if LOAD is above 0 ..)". */
    private static void putNothing() {
        ClaySlips x = Check.after(1, "street 2;water 0 3;man 0 0;slip 0\"-\";");
        check.man("nothing to put, place goes on", x, 0, 0, 0, 1, 0);
        due("nothing put", x.in(0), 3);
        ClaySlips y = Check.after(3, "street 2;water 0 1;man 0 0;slip 0\"+--\";");
        check.man("the last put", y, 0, 0, 0, 3, 0);
        due("put once", y.in(0), 1);
    }

    /** ".. (.. and the CELL has less than 20)". */
    private static void putFull() {
        ClaySlips x = Check.after(3, "street 2;water 0 2;water 1 20;man 0 0;slip 0\"+>-\";");
        check.man("cell is full, place goes on", x, 0, 1, 1, 3, 0);
        due("cell is full", x.in(1), 20);
        ClaySlips y = Check.after(5, "street 2;water 0 2;water 1 19;man 0 0;slip 0\"++>--\";");
        check.man("up to 20", y, 0, 1, 1, 5, 0);
        due("up to 20", y.in(1), 20);
    }

    /** ". nothing". */
    private static void nothing() {
        ClaySlips x = Check.after(1, "street 3;water 1 5;man 4 1;slip 0\".\";");
        check.man("nothing", x, 0, 1, 0, 1, 0);
        due("nothing", x.in(1), 5);
    }

    /** "! he stops for ever"; PLACE goes on by one. */
    private static void haltForEver() {
        ClaySlips x = Check.told("street 3;man 0 0;slip 0\"!>\";");
        due("he stops in that step", x.step(), 0);
        check.man("place goes on", x, 0, 0, 0, 1, 1);
        Check.steps(x, 30);
        check.man("for ever", x, 0, 0, 0, 1, 1);
        due("all have", x.stops(), 0);
        ClaySlips y = Check.told("street 3;man 0 0;slip 0\"(a!)\";");
        due("in a loop, too", y.stops(), 2);
    }

    /** "? he waits until another one is in his CELL". */
    private static void waitForAnother() {
        ClaySlips x = Check.told("street 3;man 0 1;slip 0\"?\";");
        due("alone", x.step(), 1);
        check.man("alone he waits", x, 0, 1, 0, 0, 0);
        x.man(0, 0);
        x.man(0, 2);
        x.step();
        check.man("beside is not in his cell", x, 0, 1, 0, 0, 0);
        due("for ever", x.stops(), NONE);
        ClaySlips y = Check.after(1, "street 3;man 0 1;man 0 1;slip 0\"?\";");
        check.man("one with an empty slip is there", y, 0, 1, 0, 1, 0);
        ClaySlips z = Check.after(1, "street 3;man 0 1;man 0 1;slip 0\"?\";slip 1\"?\";");
        check.man("both are there", z, 0, 1, 0, 1, 0);
        check.man("both are there", z, 1, 1, 0, 1, 0);
        ClaySlips w = Check.after(1, "street 3;man 0 1;man 0 0;man 0 1;slip 0\"?\";");
        check.man("the third is there", w, 0, 1, 0, 1, 0);
    }

    /** "one by one in order": who came ahead in the step is there, who comes behind is not yet. */
    private static void waitInOrder() {
        ClaySlips x = Check.after(1, "street 3;man 0 0;man 0 1;slip 0\">\";slip 1\"?\";");
        check.man("he came ahead", x, 1, 1, 0, 1, 0);
        ClaySlips y = Check.after(1, "street 3;man 0 1;man 0 0;slip 0\"?\";slip 1\">\";");
        check.man("he comes behind", y, 0, 1, 0, 0, 0);
        y.step();
        check.man("he is there", y, 0, 1, 0, 1, 0);
        ClaySlips z = Check.after(1, "street 3;man 0 1;man 0 1;slip 0\">\";slip 1\"?\";");
        check.man("he left ahead", z, 1, 1, 0, 0, 0);
        ClaySlips w = Check.after(1, "street 3;man 0 1;man 0 1;slip 0\"?\";slip 1\">\";");
        check.man("he leaves behind", w, 0, 1, 0, 1, 0);
    }

    /** "as long as there is WATER here (w), none here (n), LOAD above 0 (l), LOAD 0 (e), always (a)". */
    private static void questions() {
        String[] questions = {"w", "n", "l", "e", "a"};
        int[][] in = {{0, 1, 0, 1}, {1, 0, 1, 0}, {0, 0, 1, 1}, {1, 1, 0, 0}, {1, 1, 1, 1}};
        for (int q = 0; q < 5; q++) {
            for (int k = 0; k < 4; k++) {
                int water = k % 2;
                int load = k / 2;
                String text = "street 2;water 0 " + (water + load) + ";water 1 9;man 0 0;slip 0\"";
                ClaySlips x = Check.after(load + 1, text + "+".repeat(load) + "(" + questions[q] + "..)\";");
                int want = load + (in[q][k] == 1 ? 2 : 5);
                check.man(questions[q] + " by water " + water + " and load " + load, x, 0, 0, load, want, 0);
            }
        }
    }

    /** ".. those SIGNS again and again". */
    private static void questionsAgain() {
        ClaySlips x = Check.told("street 2;water 0 3;man 0 0;slip 0\"(w+)\";");
        due("three times and out", x.stops(), 3 * 3 + 1 + 1);
        Check.steps(x, 10);
        check.man("out", x, 0, 0, 3, 4, 0);
        ClaySlips y = Check.told("street 2;water 1 20;man 0 0;slip 0\"(n.)\";");
        due("none here", y.stops(), NONE);
        y.water(0, 1);
        due("one here", y.stops(), 2);
        ClaySlips z = Check.told("street 9;man 0 0;slip 0\"(n>)\";water 8 1;");
        due("until there is one", z.run(24, 0, 1), 1);
        due("until there is one", z.stops(), 8 * 3 + 2);
        ClaySlips w = Check.told("street 2;man 0 0;slip 0\"(w)\";");
        due("an empty loop is passed", w.stops(), 2);
        w.water(0, 1);
        due("an empty loop is for ever", w.stops(), NONE);
    }

    /** ") goes back to its (", and "( else behind its )": the one of the same depth. */
    private static void nestedLoops() {
        ClaySlips x = Check.told("street 3;water 0 2;man 0 0;slip 0\"(w(e+)>(l-)<)!\";");
        int[] places = {2, 4, 5, 2, 6, 7, 9, 10, 7, 11, 12, 0, 2};
        for (int k = 0; k < places.length; k++) {
            x.step();
            due("place behind " + (k + 1), x.of(0, 2), places[k]);
        }
        ClaySlips y = Check.after(1, "street 3;man 0 0;slip 0\"(w(e+)>(l-)<)!\";");
        due("behind the outer one", y.of(0, 2), 13);
        ClaySlips deep = Check.told("street 2;man 0 0;slip 0\"(a(a(a(a(a(a(a(a))))))))\";");
        due("eight deep", deep.fault(0), NONE);
        for (int k = 1; k <= 8; k++) {
            deep.step();
            due("eight deep in", deep.of(0, 2), 2 * k);
        }
        deep.step();
        due("back to the innermost", deep.of(0, 2), 14);
    }

    private static int faultOf(String signs) {
        ClaySlips x = new ClaySlips();
        x.man(0, 0);
        Check.slip(x, 0, signs);
        return x.fault(0);
    }

    /** "FAULT: the place of the first SIGN that can not stand there". */
    private static void faultPlaces() {
        for (String question : new String[] {"w", "n", "l", "e", "a"}) {
            due("a question first", faultOf(question), 0);
            due("a question behind a sign", faultOf("." + question), 1);
            due("a question behind )", faultOf("(a)" + question), 3);
            due("a question behind a question", faultOf("(a" + question + ")"), 2);
        }
        for (char c : "<>+-.!?()".toCharArray()) {
            due("no question behind ( but " + c, faultOf("(" + c + "a)"), 1);
        }
        due(") first", faultOf(")"), 0);
        due(") once too often", faultOf("(a.))"), 4);
        due("the first of two", faultOf("(a.))w"), 4);
        due("a sign that can not stand goes ahead of what lacks", faultOf("(a(.w"), 3);
        due("the last of 24", faultOf(".".repeat(23) + ")"), 23);
    }

    /** ".. (its length: something lacks)". */
    private static void faultLacks() {
        due("a question lacks", faultOf("("), 1);
        due("a question lacks", faultOf("..("), 3);
        due(") lacks", faultOf("(a"), 2);
        due(") lacks", faultOf("(a."), 3);
        due("one ) of two lacks", faultOf("(a(w.)"), 6);
        due("24 signs, ( last", faultOf(".".repeat(23) + "("), 24);
        due("24 signs, ) lacks", faultOf("(a" + ".".repeat(22)), 24);
    }

    /** ".. none (an empty one, too)". */
    private static void faultNone() {
        due("empty", faultOf(""), NONE);
        for (char c : "<>+-.!?".toCharArray()) {
            due("one sign " + c, faultOf("" + c), NONE);
        }
        due("loop", faultOf("(w.)"), NONE);
        due("24 signs", faultOf("(a" + ".".repeat(21) + ")"), NONE);
        due("eight loops", faultOf("(n)".repeat(8)), NONE);
    }

    /** "A MAN with .. a FAULT has stopped"; "he has not stopped any more, if there is no FAULT". */
    private static void faultStops() {
        ClaySlips x = Check.told("street 3;man 0 0;slip 0\">(a\";");
        due("fault", x.fault(0), 3);
        due("stopped", x.step(), 0);
        check.man("he does nothing", x, 0, 0, 0, 0, 1);
        due("what lacks is told", x.write(0, 8), 4);
        check.man("he goes", x, 0, 0, 0, 0, 0);
        due("he goes", x.step(), 1);
        due("he goes", x.of(0, 0), 1);
        due("a fault on the way", x.write(0, 13), 5);
        due("a fault on the way", x.fault(0), 4);
        check.man("stays where he is", x, 0, 1, 0, 1, 1);
        due("no sign mends it", x.write(0, 4), 6);
        check.man("no sign mends it", x, 0, 1, 0, 1, 1);
    }

    /** "one by one in order": the first takes the last water. */
    private static void oneByOne() {
        ClaySlips x = Check.after(1, "street 2;water 0 2;man 0 0;man 0 0;man 0 0;slip 0\"+\";slip 1\"+\";slip 2\"+\";");
        check.man("0 ahead", x, 0, 0, 1, 1, 0);
        check.man("1 ahead", x, 1, 0, 1, 1, 0);
        check.man("2 behind", x, 2, 0, 0, 1, 0);
        ClaySlips y = Check.after(2, "street 2;water 0 1;man 0 0;man 0 0;slip 0\"+-\";slip 1\".+\";");
        due("put ahead", y.of(1, 1), 1);
        ClaySlips z = Check.after(2, "street 2;water 0 1;man 0 0;man 0 0;slip 1\"+-\";slip 0\".+\";");
        due("put behind", z.of(0, 1), 0);
        due("put behind", z.in(0), 1);
    }

    /** "(Each of these is all he does in the STEP.)". */
    private static void bracketsTakeAStep() {
        ClaySlips x = Check.told("street 9;water 0 1;man 0 0;slip 0\"(w>)>\";");
        int[][] want = {{0, 2}, {1, 3}, {1, 0}, {1, 4}, {2, 5}};
        for (int k = 0; k < want.length; k++) {
            due("goes on", x.step(), 1);
            due("cell behind " + (k + 1), x.of(0, 0), want[k][0]);
            due("place behind " + (k + 1), x.of(0, 2), want[k][1]);
        }
        due("end", x.step(), 0);
    }

    /** "PLACE at the end of the SLIP: he stops in that STEP". */
    private static void endStops() {
        ClaySlips x = Check.told("street 2;man 0 0;man 0 1;slip 0\".\";slip 1\"..\";");
        due("both go", x.step(), 2);
        check.man("at the end, not stopped", x, 0, 0, 0, 1, 0);
        due("one has stopped", x.step(), 1);
        check.man("at the end, stopped", x, 0, 0, 0, 1, 1);
        check.man("at the end, not stopped", x, 1, 1, 0, 2, 0);
        due("both have", x.step(), 0);
        due("number", x.count(2), 3);
    }

    /** "who has not stopped does ..": who has does not, and the STEPS' number goes on. */
    private static void stoppedStay() {
        ClaySlips x = Check.after(3, "street 3;water 1 5;man 0 1;man 0 1;slip 0\"+\";slip 1\"!+\";");
        Check.steps(x, 17);
        check.man("at the end", x, 0, 1, 1, 1, 1);
        check.man("by !", x, 1, 1, 0, 1, 1);
        due("water", x.in(1), 4);
        due("number", x.count(2), 20);
        due("a step of nobody", new ClaySlips().step(), 0);
    }

    /** What a sign brings a kind by steps 0 and 1: its load of 5, its cell, its place behind ?. */
    private static void everyKind() {
        int[] load = {2, 4, 2, 2, 5, 2};
        int[] cell = {2, 2, 1, 2, 2, 1};
        int[] place = {0, 0, 0, 1, 0, 0};
        for (int kind = 0; kind <= 5; kind++) {
            String begin = "street 3;water 0 5;man " + kind + " 0;slip 0";
            due("++ of kind " + kind, Check.after(2, begin + "\"++\";").of(0, 1), load[kind]);
            due(">> of kind " + kind, Check.after(2, begin + "\">>\";").of(0, 0), cell[kind]);
            due("? of kind " + kind, Check.after(1, begin + "\"?\";").of(0, 2), place[kind]);
            due("- puts one, kind " + kind, Check.after(3, begin + "\"++-\";").of(0, 1), load[kind] - 1);
        }
    }

    /** "1 STRONG: by + he fetches twice at once (if he can)". */
    private static void strong() {
        for (int water = 0; water <= 4; water++) {
            ClaySlips x = Check.after(1, "street 2;water 0 " + water + ";man 1 0;slip 0\"+\";");
            due("of " + water, x.of(0, 1), Math.min(2, water));
            due("left of " + water, x.in(0), water - Math.min(2, water));
        }
        ClaySlips y = Check.after(11, "street 2;water 0 20;man 1 0;slip 0\"+++++++++-+++\";");
        due("19 carried", y.of(0, 1), 19);
        y.water(0, 5);
        y.step();
        due("once, to 20", y.of(0, 1), 20);
        due("once, to 20", y.in(0), 4);
        y.step();
        due("not above 20", y.of(0, 1), 20);
        due("not above 20", y.in(0), 4);
    }

    /** "2 LAME: < and > take him nowhere in STEPS whose number is odd (from 0 on)". */
    private static void lame() {
        ClaySlips x = Check.told("street 9;water 3 3;man 2 0;slip 0\">>>>>+<<<\";");
        int[] cells = {1, 1, 2, 2, 3, 3, 2, 2, 1};
        for (int k = 0; k < cells.length; k++) {
            x.step();
            due("cell behind step " + k, x.of(0, 0), cells[k]);
            due("place goes on", x.of(0, 2), k + 1);
        }
        due("+ in an odd step", x.of(0, 1), 1);
        x.undo();
        x.undo();
        due("the number is one less by undo", x.count(2), 7);
        Check.slip(x, 0, "..");
        x.step();
        due("step 7 anew", x.of(0, 0), 2);
        x.step();
        due("step 8 anew", x.of(0, 0), 1);
        ClaySlips y = Check.told("street 3;man 2 0;");
        y.step();
        Check.slip(y, 0, ">>");
        y.step();
        due("by the street's number, not his own", y.of(0, 0), 0);
        y.step();
        due("by the street's number, not his own", y.of(0, 0), 1);
    }

    /** "3 DEAF: ? is as .". */
    private static void deaf() {
        ClaySlips x = Check.after(1, "street 2;man 3 0;slip 0\"?>\";");
        check.man("goes on", x, 0, 0, 0, 1, 0);
        due("stops", x.stops(), 2);
        due("waits for nobody", Check.told("street 2;man 3 0;slip 0\"(a?)\";").again(2), 0);
        ClaySlips y = Check.after(1, "street 2;man 3 0;man 3 0;slip 0\"?>\";slip 1\"?\";");
        check.man("with another, too", y, 0, 0, 0, 1, 0);
    }

    /** "4 GREEDY: by + he fetches as often as he can". */
    private static void greedy() {
        for (int water = 0; water <= 20; water += 5) {
            ClaySlips x = Check.after(1, "street 2;water 0 " + water + ";man 4 0;slip 0\"+\";");
            due("of " + water, x.of(0, 1), water);
            due("left of " + water, x.in(0), 0);
        }
        ClaySlips y = Check.after(1, "street 2;water 0 12;man 4 0;slip 0\"++-\";");
        y.water(0, 20);
        y.step();
        due("to 20", y.of(0, 1), 20);
        due("what is above stays", y.in(0), 12);
        y.step();
        due("puts one", y.in(0), 13);
    }

    /** "5 PIOUS: as LAME, and + and - are as . in every seventh STEP (numbers 6, 13, ..)". */
    private static void pious() {
        ClaySlips x = Check.told("street 2;water 0 20;man 5 0;slip 0\"" + "+".repeat(20) + "\";");
        int load = 0;
        for (int step = 0; step < 20; step++) {
            x.step();
            load += step == 6 || step == 13 ? 0 : 1;
            check.man("+ behind step " + step, x, 0, 0, load, step + 1, 0);
        }
        ClaySlips y = Check.told("street 2;water 0 20;man 5 0;");
        Check.slip(y, 0, "+".repeat(12) + "-".repeat(10));
        Check.steps(y, 12);
        int left = y.of(0, 1);
        due("11 of 12", left, 11);
        y.water(0, 0);
        for (int step = 12; step < 22; step++) {
            y.step();
            left -= step == 13 || step == 20 ? 0 : 1;
            check.man("- behind step " + step, y, 0, 0, left, step + 1, 0);
        }
        ClaySlips z = Check.after(6, "street 3;water 1 9;man 5 0;slip 0\"....>.><\";");
        due("> in step 4", z.of(0, 0), 1);
        z.step();
        due("> in step 6 is none of + and -", z.of(0, 0), 2);
        z.step();
        due("< in step 7", z.of(0, 0), 2);
    }
}
