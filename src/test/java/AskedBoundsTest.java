/** Part 2 of the document: each sentence that names a bound, tried at the bound and beyond it. */
public final class AskedBoundsTest {
    private static final int NONE = -1, BAD = -2, NOT_SO_MANY = -5, BAD_TEN = -10;
    private static final Check check = new Check("AskedBoundsTest");

    /** Nineteen rounds of 21 steps, one step out of them, and one to stop: 401. */
    private static final String LONG = "street 2;water 0 19;man 0 0;slip 0\"(w+>-<" + ".".repeat(15) + ")\";";

    private static void due(String what, long got, long want) {
        check.due(what, got, want);
    }

    public static void main(String[] args) {
        runIsSteps();
        runBounds();
        stopsFirst();
        stopsLast();
        stopsInRounds();
        stopsByNumber();
        askedAnew();
        againFirst();
        againLast();
        againNeeds();
        waiting();
        waitingFrom();
        rubbedFault();
        rubbedForEver();
        rubbedSame();
        rubbedPlace();
        rubbedSigns();
        rubbedStopped();
        danger();
        thiefPlaces();
        thiefPlace();
        thiefFirst();
        thiefNone();
        thiefLength();
        thiefStopped();
        shortestLengths();
        shortestFirst();
        shortestNone();
        shortestNumbers();
        shortestAnew();
        said();
        saidAlone();
        seen();
        emptiedSteps();
        emptiedOrders();
        emptiedFirst();
        emptiedNumbers();
        emptiedStopped();
        check.end();
    }

    /** "RUN from now, m STEPS (0 .. 400): how all is then": each as so many calls of step. */
    private static void runIsSteps() {
        String[] texts = {LONG, "street 3;water 0 20;man 4 0;man 5 2;man 2 1;slip 0\"(a+>-<)\";slip 1\"?(l-)<\";slip 2\"(w+>?)\";"};
        for (String text : texts) {
            ClaySlips water = Check.told(text);
            ClaySlips going = Check.told(text);
            ClaySlips real = Check.told(text);
            for (int m = 0; m <= 400; m++) {
                int awake = m == 0 ? going.run(0, 0, 1) : real.step();
                due("run " + m + " going", going.run(m, 0, 1), awake);
                int cell = m % 2;
                due("run " + m + " water of " + cell, water.run(m, cell, 0), inAfter(text, m, cell));
            }
        }
    }

    private static int inAfter(String text, int steps, int cell) {
        return Check.after(steps, text).in(cell);
    }

    private static void runBounds() {
        ClaySlips x = Check.after(3, LONG);
        long ahead = x.digest();
        due("m -1", x.run(-1, 0, 0), BAD_TEN);
        due("m 0 is now", x.run(0, 0, 0), 18);
        due("m 400", x.run(400, 1, 0), 19);
        due("m 401", x.run(401, 1, 0), BAD_TEN);
        due("cell -1", x.run(1, -1, 0), BAD_TEN);
        due("cell 1", x.run(1, 1, 0), 1);
        due("cell 2", x.run(1, 2, 0), BAD_TEN);
        due("what -1", x.run(1, 0, -1), BAD_TEN);
        due("what 1", x.run(1, 0, 1), 1);
        due("what 1, cell 1", x.run(1, 1, 1), BAD_TEN);
        due("what 2", x.run(1, 0, 2), BAD_TEN);
        due("each counts as BAD", x.status(0), 7);
        due("nothing changes", x.digest(), ahead);
    }

    /** "STOPS: how many STEPS until all have stopped (0 .. ": nobody, an empty slip, a fault, ! and the end. */
    private static void stopsFirst() {
        due("nobody", new ClaySlips().stops(), 0);
        due("empty", Check.told("street 2;man 0 0;man 0 1;").stops(), 0);
        due("fault", Check.told("street 2;man 0 0;slip 0\"(\";").stops(), 0);
        due("!", Check.told("street 2;man 0 0;slip 0\"!\";").stops(), 1);
        due("end", Check.told("street 2;man 0 0;slip 0\".\";").stops(), 2);
        due("stopped by !", Check.after(1, "street 2;man 0 0;slip 0\"!\";").stops(), 0);
        due("stopped at the end", Check.after(2, "street 2;man 0 0;slip 0\".\";").stops(), 0);
        due("the last of them", Check.told("street 2;man 0 0;man 0 0;slip 0\"!\";slip 1\"..\";").stops(), 3);
        due("one for ever", Check.told("street 2;man 0 0;man 0 1;slip 0\"!\";slip 1\"?\";").stops(), NONE);
    }

    /** ".. 400; none)". */
    private static void stopsLast() {
        ClaySlips x = Check.told(LONG);
        due("401", x.stops(), NONE);
        x.step();
        due("400", x.stops(), 400);
        x.step();
        due("399", x.stops(), 399);
        x.undo();
        x.undo();
        due("401 anew", x.stops(), NONE);
        due("none is no BAD", x.status(0), 0);
    }

    /** Rounds of 14 steps that leave but one thing changed: they end all the same. */
    private static void stopsInRounds() {
        ClaySlips cell = Check.told("street 9;water 8 1;man 0 0;slip 0\"(n>" + ".".repeat(11) + ")\";");
        due("cell by cell", cell.stops(), 8 * 14 + 2);
        ClaySlips water = Check.told("street 9;water 7 20;water 8 1;man 0 7;slip 0\"(w+>-<" + ".".repeat(8) + ")\";");
        due("water by water, the last one not put", water.stops(), 20 * 14 + 2);
        water.water(7, 19);
        due("water by water", water.stops(), 19 * 14 + 2);
        ClaySlips load = Check.told("street 2;water 0 5;man 4 0;man 0 0;slip 0\"+\";");
        load.step();
        load.rub(0);
        Check.slip(load, 0, "(l-" + ".".repeat(11) + ")");
        Check.slip(load, 1, "(a+" + ".".repeat(11) + ")");
        due("load by load, the other for ever", load.stops(), NONE);
        load.rub(1);
        Check.slip(load, 1, "(w.)" + "+" + ".".repeat(17));
        due("load by load", load.stops(), 5 * 14 + 2);
        ClaySlips both = Check.told("street 2;water 0 5;man 4 0;man 0 0;slip 0\"+\";");
        both.step();
        both.rub(0);
        Check.slip(both, 0, "(l-" + ".".repeat(11) + ")");
        Check.slip(both, 1, ".(w+" + ".".repeat(11) + ")");
        due("load by load, from one to the other", both.stops(), 5 * 14 + 3);
        due("place by place", Check.told("street 9;man 0 8;slip 0\"" + ".".repeat(24) + "\";").stops(), 25);
        due("nine cells for ever", Check.told("street 9;water 8 20;man 0 8;slip 0\"(a)\";").stops(), NONE);
        ClaySlips late = Check.told("street 9;water 0 20;man 0 0;man 0 8;slip 0\"(w+............)\";slip 1\"?\";");
        due("one waits for ever", late.stops(), NONE);
        late.rub(1);
        due("twenty rounds", late.stops(), 20 * 15 + 2);
    }

    /** By the STEPS' number alone all is other than before: he who went nowhere goes the next time. */
    private static void stopsByNumber() {
        due("lame, three steps a round", Check.told("street 9;water 8 1;man 2 0;slip 0\"(n>)\";").stops(), 50);
        due("lame, fifteen steps a round",
            Check.told("street 2;water 1 1;man 2 0;slip 0\"(n>" + ".".repeat(12) + ")\";").stops(), 32);
        due("pious, always in a seventh step", Check.told("street 2;water 0 1;man 5 0;slip 0\".....(w+....)\";").stops(), NONE);
        due("pious, never in one", Check.told("street 2;water 0 1;man 5 0;slip 0\"....(w+....)\";").stops(), 4 + 7 + 2);
        due("pious, once in one", Check.told("street 2;water 0 1;man 5 0;slip 0\".....(w+.....)\";").stops(), 5 + 16 + 2);
    }

    /** Asked behind other streets, and on streets that no text told. */
    private static void askedAnew() {
        ClaySlips x = Check.told("street 9;water 8 5;man 4 8;man 4 8;man 4 7;slip 0\"(a+-)\";slip 1\"(a<>)\";slip 2\"?\";");
        due("of three", x.again(0) > 0 ? 1 : 0, 1);
        due("of three", x.stops(), NONE);
        x.street(3);
        comesAgain("of nobody", x, 14, 0);
        due("of nobody", x.stops(), 0);
        due("of nobody", x.run(400, 0, 1), 0);
        x.water(0, 3);
        x.man(0, 0);
        due("shortest", x.shortest(0, 0, 2, 0), 2);
        due("emptied", x.emptied(4, 0, NONE), 3);
        ClaySlips y = Check.told("street 9;water 8 5;man 4 8;slip 0\"(a+-)\";");
        y.street(3);
        y.water(0, 3);
        y.man(0, 0);
        due("thief of an empty slip", y.thief(0, 0), 0);
        y.write(0, 2);
        due("thief", y.thief(0, 0), 1);
        ClaySlips z = new ClaySlips();
        z.man(0, 0);
        z.water(0, 3);
        z.write(0, 2);
        due("thief, no text told", z.thief(0, 0), 1);
        ClaySlips w = new ClaySlips();
        w.water(0, 3);
        w.man(0, 0);
        due("shortest, no text told", w.shortest(0, 0, 2, 0), 2);
        ClaySlips v = new ClaySlips();
        v.water(5, 3);
        v.man(0, 5);
        v.man(0, 5);
        v.write(1, 2);
        due("emptied, no text told", v.emptied(1, 5, NONE), 2);
        due("rubbed, no text told", v.rubbed(1, 0), 2);
        due("danger, no text told", v.danger(1), 1);
        due("stops, no text told", v.stops(), 2);
        due("run, no text told", v.run(1, 5, 0), 2);
    }

    /** "the least t (1 .. ": with nobody the STEPS' number alone must come again. */
    private static void againFirst() {
        comesAgain("nobody", new ClaySlips(), 14, 0);
        ClaySlips x = new ClaySlips();
        Check.steps(x, 5);
        comesAgain("nobody later", x, 14, 0);
        comesAgain("two steps a round", Check.told("street 2;man 0 0;slip 0\"(a)\";"), 14, 0);
        comesAgain("three steps a round", Check.told("street 2;man 0 0;slip 0\"(a.)\";"), 42, 0);
        comesAgain("five steps a round", Check.told("street 2;man 0 0;slip 0\"(a...)\";"), 70, 0);
        comesAgain("seven steps a round", Check.told("street 2;man 0 0;slip 0\"(a.....)\";"), 14, 0);
        comesAgain("all stopped", Check.after(2, "street 2;man 0 0;slip 0\".\";"), 14, 0);
    }

    private static void comesAgain(String what, ClaySlips x, int t, int s) {
        due(what + ", the number", x.again(0), t);
        due(what + ", the earlier one", x.again(1), s);
    }

    /** ".. 400) ..; none": 386 steps until all has stopped, and 14 more. */
    private static void againLast() {
        ClaySlips x = Check.after(14, LONG);
        due("387", x.stops(), 387);
        comesAgain("401", x, NONE, NONE);
        due("401, waiting", x.again(2), NONE);
        x.step();
        comesAgain("400", x, 400, 386);
        due("400, waiting", x.again(2), 0);
        x.step();
        comesAgain("399", x, 399, 385);
        due("what -1", x.again(-1), BAD_TEN);
        due("what 3", x.again(3), BAD_TEN);
        due("none is no BAD", x.status(0), 2);
    }

    /** "all (CELLS, LOADS, WATER, PLACES, who has stopped, and the STEPS' number by 14 left over)". */
    private static void againNeeds() {
        comesAgain("cells", Check.told("street 9;man 0 0;slip 0\"(a>)\";"), 65, 23);
        ClaySlips loads = Check.after(2, "street 2;water 0 2;man 0 0;man 0 0;slip 0\"++\";");
        loads.rub(0);
        Check.slip(loads, 0, "(a-)");
        Check.slip(loads, 1, "(a+)");
        comesAgain("loads", loads, 47, 5);
        comesAgain("water", Check.told("street 2;water 0 2;man 0 0;slip 0\"(a+>-<)\";"), 52, 10);
        comesAgain("places", Check.told("street 2;man 0 0;slip 0\"" + ".".repeat(20) + "\";"), 35, 21);
        comesAgain("stopped at the end", Check.told("street 2;man 0 0;slip 0\".\";"), 16, 2);
        comesAgain("stopped by !", Check.told("street 2;man 0 0;slip 0\".!\";"), 16, 2);
        comesAgain("of the third man, too", Check.told("street 2;man 0 0;man 0 0;man 0 1;slip 2\"...\";"), 18, 4);
        comesAgain("water of the last cell", Check.told("street 9;water 8 2;man 0 8;man 0 7;slip 0\"(a+<->)\";"), 52, 10);
    }

    /** "WAITING: who waits by ? in vain in each STEP from s to t less 1 (bits)". */
    private static void waiting() {
        due("nobody", new ClaySlips().again(2), 0);
        due("man 0", Check.told("street 3;man 0 0;slip 0\"?\";").again(2), 1);
        due("man 1", Check.told("street 3;man 0 0;man 0 1;slip 1\"?\";").again(2), 2);
        due("man 2", Check.told("street 3;man 0 0;man 0 0;man 0 1;slip 2\"?\";").again(2), 4);
        due("all", Check.told("street 3;man 0 0;man 0 1;man 0 2;slip 0\"?\";slip 1\"?\";slip 2\"?\";").again(2), 7);
        due("by the end", Check.told("street 3;man 0 0;man 0 1;slip 0\"...?\";slip 1\"?\";").again(2), 3);
        due("not in vain", Check.told("street 3;man 0 0;man 0 0;slip 0\"(a?)\";slip 1\"(a?)\";").again(2), 0);
        due("deaf", Check.told("street 3;man 3 0;slip 0\"(a?)\";").again(2), 0);
        due("stopped", Check.told("street 3;man 0 0;slip 0\"!?\";").again(2), 0);
        due("by a fault", Check.told("street 3;man 0 0;slip 0\"?)\";").again(2), 0);
        ClaySlips some = Check.told("street 3;man 0 0;man 0 1;man 0 2;slip 0\"(a?)\";slip 1\"(a<>)\";slip 2\"?\";");
        due("not in each step", some.again(2), 4);
        due("a round of four and three steps", some.again(0) > 0 ? 1 : 0, 1);
    }

    /** ".. from s": what was ahead of it does not count. */
    private static void waitingFrom() {
        ClaySlips x = Check.told("street 3;man 0 0;slip 0\".?\";");
        comesAgain("one step ahead", x, 15, 1);
        due("one step ahead", x.again(2), 1);
        ClaySlips y = Check.told("street 3;man 0 0;man 0 1;slip 0\"?\";slip 1\"<>\";");
        comesAgain("he waited once, and goes", y, 17, 3);
        due("he waited once, and goes", y.again(2), 0);
    }

    /** "RUBBED: .. 0 the SLIP has a FAULT". */
    private static void rubbedFault() {
        ClaySlips x = Check.told("street 2;man 0 0;slip 0\"(a.)\";");
        int[] want = {0, 0, 3, 0};
        for (int i = 0; i < 4; i++) {
            due("of a loop for ever, sign " + i, x.rubbed(0, i), want[i]);
        }
        ClaySlips y = Check.told("street 2;man 0 0;slip 0\".)\";");
        due("the fault stays", y.rubbed(0, 0), 0);
        due("the fault is rubbed off, another end is none", y.rubbed(0, 1), 1);
        ClaySlips z = Check.told("street 2;man 0 0;man 0 1;slip 0\"(a)\";slip 1\"(a)\";");
        due("a fault goes ahead of for ever", z.rubbed(1, 0), 0);
    }

    /** "else 3 not all stop within 400 STEPS". */
    private static void rubbedForEver() {
        ClaySlips x = Check.told(LONG);
        x.man(0, 1);
        Check.slip(x, 1, "..");
        due("in 401", x.rubbed(1, 0), 3);
        x.step();
        due("in 400", x.rubbed(1, 1), 1);
        ClaySlips y = Check.told(LONG + "slip 0\".\";");
        y.step();
        due("with it in 401", y.stops(), NONE);
        due("without it in 400 alone", y.rubbed(0, 22), 2);
        due("without it sooner alone", y.rubbed(0, 6), 2);
        ClaySlips z = Check.told("street 2;man 0 0;man 0 1;slip 0\".\";slip 1\"?\";");
        due("another one for ever", z.rubbed(0, 0), 3);
    }

    /** "else 1 all stop as they do with it (CELLS, LOADS, WATER in the end); else 2". */
    private static void rubbedSame() {
        due("places and steps are none of it", Check.told("street 3;water 0 2;man 0 0;slip 0\".+>-\";").rubbed(0, 0), 1);
        due("cells", Check.told("street 3;man 0 0;slip 0\">\";").rubbed(0, 0), 2);
        due("loads", Check.told("street 2;water 0 1;man 0 0;man 0 0;slip 0\"+\";slip 1\".+\";").rubbed(0, 0), 2);
        due("water", Check.told("street 3;water 1 1;man 0 0;slip 0\">+<-\";").rubbed(0, 1), 2);
        due("another one's cell", Check.told("street 3;water 0 1;man 0 0;man 0 0;slip 0\"+\";slip 1\"..(w>)\";").rubbed(0, 0), 2);
        due("a sign at the end of the street", Check.told("street 3;man 0 0;slip 0\"<\";").rubbed(0, 0), 1);
        due("empty then", Check.told("street 3;man 0 0;slip 0\".\";").rubbed(0, 0), 1);
    }

    /** "(his PLACE one less, if it is above i)". */
    private static void rubbedPlace() {
        ClaySlips x = Check.after(1, "street 9;man 0 0;slip 0\">>>\";");
        due("below his place", x.rubbed(0, 0), 1);
        due("at his place", x.rubbed(0, 1), 2);
        due("above his place", x.rubbed(0, 2), 2);
        ClaySlips y = Check.after(1, "street 9;man 0 0;slip 0\".>\";");
        due("at his place, one less would be the other", y.rubbed(0, 1), 2);
        due("below his place", y.rubbed(0, 0), 1);
        ClaySlips z = Check.after(2, "street 9;man 0 0;slip 0\".>\";");
        due("at the end, not stopped", z.rubbed(0, 1), 1);
        due("at the end, not stopped", z.rubbed(0, 0), 1);
        ClaySlips w = Check.after(2, "street 9;water 0 1;man 0 0;slip 0\"(w+>)\";");
        due("in a loop, at his place", w.rubbed(0, 3), 2);
        due("in a loop, below his place", w.rubbed(0, 2), 3 - 2);
    }

    /** "BAD: a SIGN that is not there, too". */
    private static void rubbedSigns() {
        ClaySlips x = Check.told("street 2;man 0 0;slip 0\"..\";");
        due("man -1", x.rubbed(-1, 0), BAD);
        due("man 1", x.rubbed(1, 0), BAD);
        due("sign -1", x.rubbed(0, -1), BAD);
        due("sign 0", x.rubbed(0, 0), 1);
        due("sign 1", x.rubbed(0, 1), 1);
        due("sign 2", x.rubbed(0, 2), BAD);
        due("each counts as BAD", x.status(0), 4);
        x.rub(0);
        due("no sign at all", x.rubbed(0, 0), BAD);
        Check.slip(x, 0, ".".repeat(24));
        due("sign 23", x.rubbed(0, 23), 1);
        due("sign 24", x.rubbed(0, 24), BAD);
    }

    /** "who has stopped by ! or at the end stays so; by a FAULT alone he goes, if there is none then". */
    private static void rubbedStopped() {
        due("by !", Check.after(1, "street 3;man 0 1;slip 0\"!>\";").rubbed(0, 0), 1);
        due("at the end", Check.after(3, "street 3;man 0 1;slip 0\".>\";").rubbed(0, 1), 1);
        due("by a fault alone", Check.told("street 3;man 0 1;slip 0\"!)\";").rubbed(0, 1), 1);
        due("by a fault alone he goes", Check.told("street 3;man 0 1;slip 0\">)\";").rubbed(0, 1), 2);
        due("by a fault alone he goes for ever", Check.told("street 3;man 0 1;slip 0\"?)\";").rubbed(0, 1), 3);
        ClaySlips x = Check.after(1, "street 3;man 0 1;slip 0\"!\";");
        Check.slip(x, 0, ")>");
        due("by ! and a fault", x.rubbed(0, 1), 1);
        ClaySlips y = Check.after(2, "street 3;man 0 1;slip 0\".\";");
        Check.slip(y, 0, ")>");
        due("at the end and by a fault", y.rubbed(0, 1), 1);
    }

    /** "DANGER: how many SIGNS of a SLIP lead to other than 1". */
    private static void danger() {
        ClaySlips x = Check.told("street 3;man 0 0;man 0 0;man 0 0;");
        Check.slip(x, 1, ".".repeat(24));
        Check.slip(x, 2, "..>.");
        due("empty", x.danger(0), 0);
        due("none of 24", x.danger(1), 0);
        due("one", x.danger(2), 1);
        due("man 3", x.danger(3), BAD);
        due("man -1", x.danger(-1), BAD);
        ClaySlips y = Check.told("street 2;man 0 0;slip 0\"(a" + ".".repeat(21) + ")\";");
        due("all 24", y.danger(0), 24);
        ClaySlips z = Check.told("street 3;water 0 3;man 0 0;slip 0\"(w+)>.\";");
        due("three by a fault, one for ever, one else, one not", z.danger(0), 5);
        int sum = 0;
        for (int i = 0; i < 6; i++) {
            sum += z.rubbed(0, i) == 1 ? 0 : 1;
        }
        due("as rubbed says", sum, 5);
    }

    /** "at a place 0 to its length": the first and the last place, each sign. */
    private static void thiefPlaces() {
        due("<", Check.told("street 2;water 0 1;man 0 0;").thief(0, 0), 0);
        due(">", Check.told("street 2;water 0 2;man 0 0;slip 0\"+\";").thief(0, 0), 1);
        due("+", Check.told("street 2;water 0 1;man 0 0;slip 0\">-\";").thief(0, 1), 2);
        due("-", Check.told("street 3;water 0 3;man 0 0;slip 0\"+>\";").thief(0, 1), 23);
        due(".", Check.after(2, "street 3;water 0 1;water 1 20;man 1 1;slip 0\"+(l-)-\";man 4 1;slip 1\"(n-)(e+).-\";")
            .thief(0, 1), 34);
        ClaySlips lame = Check.after(1, "street 2;water 0 1;man 2 0;");
        lame.write(0, 2);
        due("!", lame.thief(0, 0), 5);
        ClaySlips x = Check.told("street 3;water 0 3;man 0 0;slip 0\"+" + ".".repeat(20) + ">\";");
        due("the last place of 22", x.thief(0, 1), 223);
        ClaySlips y = Check.told("street 3;water 0 1;man 0 0;slip 0\"+-\";man 0 1;slip 1\"(l-).<+\";");
        due("no ?, by which alone one were left", y.thief(0, 0), 0);
    }

    /** "(his PLACE one more, if it is above that)". */
    private static void thiefPlace() {
        ClaySlips x = Check.after(1, "street 3;water 1 4;man 0 1;slip 0\"+<-\";");
        due("below his place nothing comes of it, at it he goes > and back", x.thief(0, 1), 11);
        due("below his place nothing comes of it", x.thief(0, 0), 0);
        ClaySlips y = Check.after(2, "street 2;water 0 2;man 0 0;slip 0\"+>\";");
        due("at the end, not stopped, he does it", y.thief(0, 1), 23);
        y.step();
        due("at the end, stopped, he does not", y.thief(0, 1), 0);
    }

    /** "of like ones the first (place, then sign in this order): 10 times the place, and 0 .. 5". */
    private static void thiefFirst() {
        due("all alike", Check.told("street 2;man 0 0;slip 0\"..\";").thief(0, 1), 0);
        due("the first sign of a place", Check.told("street 3;water 1 9;man 0 1;slip 0\".+\";").thief(0, 1), 0);
        due("the first place, not the first sign", Check.told("street 2;water 0 9;man 0 0;slip 0\".+\";").thief(0, 0), 1);
        due("more goes ahead of first", Check.told("street 2;water 0 9;man 0 0;slip 0\"++\";").thief(0, 0), 1);
    }

    /** "by which all stop within 400 STEPS ..; none". */
    private static void thiefNone() {
        ClaySlips x = Check.told("street 2;man 0 0;man 0 1;slip 0\".\";slip 1\"(a)\";");
        due("another one for ever", x.thief(0, 0), NONE);
        due("none is no BAD", x.status(0), 0);
        ClaySlips y = Check.told(LONG);
        y.man(0, 1);
        Check.slip(y, 1, ".");
        due("in 401", y.thief(1, 1), NONE);
        y.step();
        due("in 400", y.thief(1, 1), 0);
        ClaySlips z = Check.told("street 2;water 1 1;man 0 0;slip 0\"?\";man 0 1;");
        due("only those by which all stop", z.thief(0, 1), 1);
        due("a fault stops him", Check.told("street 2;water 0 1;man 0 0;slip 0\"(a.)\";").thief(0, 0), 5);
    }

    /** "BAD: a SLIP of 24 SIGNS, too". */
    private static void thiefLength() {
        ClaySlips x = Check.told("street 2;man 0 0;slip 0\"" + ".".repeat(23) + "\";");
        due("23", x.thief(0, 0), 0);
        due("cell 2", x.thief(0, 2), BAD);
        due("cell -1", x.thief(0, -1), BAD);
        due("man 1", x.thief(1, 0), BAD);
        due("man -1", x.thief(-1, 0), BAD);
        x.write(0, 4);
        due("24", x.thief(0, 0), BAD);
        due("each counts as BAD", x.status(0), 5);
        due("the slip stays", x.rub(0), 24);
        due("empty", x.thief(0, 0), 0);
        ClaySlips y = Check.told("street 2;water 0 2;man 0 0;slip 0\"+>" + ".".repeat(21) + "\";");
        due("put in as the 24th", y.thief(0, 1), 23);
    }

    private static void thiefStopped() {
        ClaySlips x = Check.after(1, "street 2;water 0 1;man 0 0;slip 0\"+!\";");
        due("goes", x.thief(0, 0), 13);
        x.step();
        due("by ! he stays so", x.thief(0, 0), 0);
        ClaySlips y = Check.after(2, "street 2;water 0 1;man 0 0;slip 0\"+\";");
        due("at the end he stays so", y.thief(0, 0), 0);
        ClaySlips z = Check.told("street 2;water 0 1;man 0 0;slip 0\")\";");
        due("no sign mends a fault", z.thief(0, 0), 0);
        ClaySlips w = Check.after(1, "street 2;water 0 1;man 4 0;slip 0\"+\";");
        w.rub(0);
        due("an empty slip is one no more", w.thief(0, 0), 3);
    }

    /** "a SLIP of < > + - alone (0 to 5 SIGNS; PLACE 0)": how long, and the i-th SIGN. */
    private static void shortestLengths() {
        String[] slips = {"", "+", "+>", "+>-", "+>>-", "++>--"};
        String[] texts = {"street 2;man 0 0;", "street 2;water 0 1;man 0 0;", "street 2;water 0 1;man 0 0;man 0 1;slip 1\"?\";",
            "street 2;water 0 1;man 0 0;", "street 3;water 0 1;man 0 0;", "street 2;water 0 2;man 0 0;"};
        int[][] asked = {{1, 0}, {0, 0}, {0, 0}, {1, 1}, {2, 1}, {1, 2}};
        for (int k = 0; k < slips.length; k++) {
            ClaySlips x = Check.told(texts[k]);
            due("how long " + slips[k], x.shortest(0, asked[k][0], asked[k][1], NONE), slips[k].length());
            for (int i = 0; i < slips[k].length(); i++) {
                due("sign " + i + " of " + slips[k], x.shortest(0, asked[k][0], asked[k][1], i),
                    Check.SIGNS.indexOf(slips[k].charAt(i)));
            }
            due("not so many as " + slips[k], x.shortest(0, asked[k][0], asked[k][1], slips[k].length()), NOT_SO_MANY);
            due("not so many as 5", x.shortest(0, asked[k][0], asked[k][1], 5), NOT_SO_MANY);
            due("not so many is no BAD", x.status(0), 0);
        }
        due("six are too many", Check.told("street 4;water 0 2;man 0 0;").shortest(0, 2, 2, NONE), NONE);
        due("for the strong five are enough", Check.told("street 4;water 0 2;man 1 0;").shortest(0, 2, 2, NONE), 5);
    }

    /** "the first such one (shorter ahead; SIGNS in this order)". */
    private static void shortestFirst() {
        ClaySlips x = Check.told("street 3;water 1 1;man 0 1;slip 0\"(a)\";man 0 0;man 0 2;slip 1\"(w.)\";");
        due("empty goes ahead", x.shortest(0, 1, 1, NONE), 0);
        ClaySlips y = Check.told("street 3;water 0 1;water 2 1;man 0 1;man 0 1;slip 1\"..(w)\";");
        due("< ahead of >", y.shortest(0, 1, 0, NONE), 0);
        ClaySlips z = Check.told("street 3;man 0 1;man 0 0;man 0 2;slip 1\"?\";slip 2\"?\";");
        due("both wait", z.shortest(0, 0, 0, NONE), 2 + 1);
        int[] signs = {0, 1, 1};
        for (int i = 0; i < 3; i++) {
            due("both wait, left first " + i, z.shortest(0, 0, 0, i), signs[i]);
        }
        ClaySlips w = Check.told("street 3;water 0 1;water 2 1;man 0 1;");
        due("< + ahead of > +", w.shortest(0, 0, 0, 0), 0);
        due("> + for the other", w.shortest(0, 2, 0, 0), 1);
        due("< + > - ahead of > + < -", w.shortest(0, 1, 1, 0), 0);
        due("four", w.shortest(0, 1, 1, NONE), 4);
    }

    /** "by which all stop within 400 STEPS ..; none". */
    private static void shortestNone() {
        ClaySlips x = Check.told(LONG.replace("street 2", "street 9"));
        x.man(0, 8);
        due("in 401", x.shortest(1, 1, 19, NONE), NONE);
        due("in 401", x.shortest(1, 1, 19, 0), NONE);
        x.step();
        due("in 400", x.shortest(1, 1, 19, NONE), 0);
        due("in 400", x.shortest(1, 1, 19, 0), NOT_SO_MANY);
        ClaySlips y = Check.told("street 2;man 0 0;man 0 1;slip 1\"(a)\";");
        due("another one for ever", y.shortest(0, 0, 0, NONE), NONE);
        due("just so much, not more", Check.told("street 2;water 0 3;man 0 0;").shortest(0, 0, 4, NONE), NONE);
        due("just so much, not more", Check.told("street 2;water 0 5;man 0 0;").shortest(0, 0, 4, NONE), 1);
    }

    /** "BAD: -10". */
    private static void shortestNumbers() {
        ClaySlips x = Check.told("street 2;water 0 20;man 0 0;");
        due("v 20", x.shortest(0, 0, 20, NONE), 0);
        due("v 21", x.shortest(0, 0, 21, NONE), BAD_TEN);
        due("v 0", x.shortest(0, 1, 0, NONE), 0);
        due("v -1", x.shortest(0, 1, -1, NONE), BAD_TEN);
        due("cell -1", x.shortest(0, -1, 0, NONE), BAD_TEN);
        due("cell 2", x.shortest(0, 2, 0, NONE), BAD_TEN);
        due("man -1", x.shortest(-1, 0, 0, NONE), BAD_TEN);
        due("man 1", x.shortest(1, 0, 0, NONE), BAD_TEN);
        due("i -2", x.shortest(0, 0, 20, -2), BAD_TEN);
        due("each counts as BAD", x.status(0), 7);
    }

    /** "all others as they are .. PLACE 0": he goes anew, whatever his slip is and did. */
    private static void shortestAnew() {
        String[] slips = {"!", ".", ")", "(a)", "?"};
        for (String slip : slips) {
            ClaySlips x = Check.after(2, "street 2;water 0 3;man 0 0;slip 0\"" + slip + "\";");
            due("behind " + slip, x.shortest(0, 0, 2, NONE), 1);
            due("his slip stays", x.rub(0), slip.length());
        }
        ClaySlips y = Check.after(2, "street 2;water 0 3;man 0 0;man 0 0;slip 0\"(a)\";slip 1\"...+\";");
        due("the other as he is", y.shortest(0, 0, 2, NONE), 0);
        due("the load as it is", Check.after(2, "street 2;water 0 3;man 0 0;slip 0\"+>\";").shortest(0, 1, 1, 0), 3);
    }

    /** "SAID: SLIPS of m SIGNS (1 .. 4) of < > + - . .. is at told CELLS behind STEPS 1 to m: how many". */
    private static void said() {
        ClaySlips x = Check.told("street 3;man 0 0;man 0 1;man 0 2;");
        int[] stays = {4, 3, 4};
        for (int man = 0; man < 3; man++) {
            long want = 1;
            for (int m = 1; m <= 4; m++) {
                x.seen(m, man);
                want *= stays[man];
                due("stays, of " + m, x.said(man, m), want);
            }
        }
        int[] way = {1, 2, 1, 0};
        for (int m = 1; m <= 4; m++) {
            x.seen(m, way[m - 1]);
        }
        for (int m = 1; m <= 4; m++) {
            due("there and back, of " + m, x.said(0, m), 1);
        }
        x.seen(3, 0);
        due("no sign takes two cells", x.said(0, 2), 1);
        due("no sign takes two cells", x.said(0, 3), 0);
        due("none behind that", x.said(0, 4), 0);
        due("m 0", x.said(0, 0), BAD);
        due("m 5", x.said(0, 5), BAD);
        due("man -1", x.said(-1, 1), BAD);
        due("man 3", x.said(3, 1), BAD);
        due("none is no BAD", x.status(0), 4);
        ClaySlips y = Check.told("street 3;man 2 1;");
        for (int m = 1; m <= 4; m++) {
            y.seen(m, 1);
        }
        due("lame, number 0", y.said(0, 1), 3);
        due("lame, numbers 0 to 3", y.said(0, 4), 3 * 5 * 3 * 5);
        y.step();
        due("lame, number 1", y.said(0, 1), 5);
        due("lame, numbers 1 to 3", y.said(0, 3), 5 * 3 * 5);
    }

    /** "(PLACE 0) by which a man alone (the others not there), from how all is now". */
    private static void saidAlone() {
        ClaySlips x = Check.after(3, "street 3;man 0 0;man 0 2;slip 0\">!\";slip 1\"(a.)\";");
        x.seen(1, 1);
        due("he goes anew, from where he is", x.said(0, 1), 3);
        x.seen(1, 2);
        due("he goes anew, from where he is", x.said(0, 1), 1);
        due("his slip stays", x.of(0, 2), 2);
        due("he has stopped still", x.of(0, 3), 1);
        due("the other's slip is none of it", x.said(1, 1), 4);
    }

    /** "CELLS told for SAID: behind STEP i (1 .. 4) CELL c (0 at first)". */
    private static void seen() {
        ClaySlips x = Check.told("street 9;");
        due("i 0", x.seen(0, 0), BAD);
        due("i 5", x.seen(5, 0), BAD);
        due("c -1", x.seen(1, -1), BAD);
        due("c 9", x.seen(1, 9), BAD);
        for (int i = 1; i <= 4; i++) {
            due("at first", x.seen(i, 9 - i), 0);
        }
        for (int i = 1; i <= 4; i++) {
            due("what it was", x.seen(i, 0), 9 - i);
        }
        due("each counts as BAD", x.status(0), 4);
    }

    /** "m STEPS (0 .. 60) ahead of each". */
    private static void emptiedSteps() {
        ClaySlips x = Check.told("street 2;water 0 20;man 0 0;slip 0\"++++++\";");
        for (int m = 0; m <= 6; m++) {
            due("m " + m, x.emptied(m, 0, NONE), 20 - m);
        }
        due("m -1", x.emptied(-1, 0, NONE), BAD_TEN);
        due("m 60", x.emptied(60, 0, NONE), 14);
        due("m 61", x.emptied(61, 0, NONE), BAD_TEN);
        due("now it is as it was", x.in(0), 20);
        ClaySlips y = Check.told("street 2;water 0 20;man 0 0;man 0 1;man 0 1;slip 0\"" + ".".repeat(22) + "+\";");
        due("ahead of all three", y.emptied(8, 0, NONE), 20);
        due("he himself first", y.emptied(8, 0, 0), 0);
        ClaySlips w = Check.told("street 2;water 1 20;man 0 1;slip 0\"(a+<->.........)\";");
        due("sixty steps are four rounds of fifteen", w.emptied(60, 0, NONE), 4);
        w.man(0, 1);
        w.man(0, 1);
        due("a hundred and eighty are twelve", w.emptied(60, 0, NONE), 12);
        due("he himself last", w.emptied(60, 0, 2), 0);
    }

    /** "by which order of MEN most WATER is in a CELL in the end". */
    private static void emptiedOrders() {
        int[][] orders = {{0, 1, 2}, {0, 2, 1}, {1, 0, 2}, {1, 2, 0}, {2, 0, 1}, {2, 1, 0}};
        for (int[] order : orders) {
            String[] slips = new String[3];
            slips[order[0]] = "(a+)";
            slips[order[1]] = ".";
            slips[order[2]] = "(a<+>-)";
            ClaySlips x = Check.told("street 3;water 1 9;water 0 9;man 0 1;man 0 1;man 0 1;slip 0\"" + slips[0] + "\";slip 1\""
                + slips[1] + "\";slip 2\"" + slips[2] + "\";");
            int most = -1;
            int best = NONE;
            for (int k = 0; k < 6; k++) {
                int left = leftBy(x, orders[k], 6, 1);
                if (left > most) {
                    most = left;
                    best = k;
                }
            }
            due("most", x.emptied(6, 1, NONE), most);
            for (int i = 0; i < 3; i++) {
                due("order " + i, x.emptied(6, 1, i), orders[best][i]);
            }
            due("the greedy one ahead", orders[best][0], order[0]);
        }
    }

    /** Empties them by calls, and goes back. */
    private static int leftBy(ClaySlips x, int[] order, int m, int cell) {
        x.image(0);
        for (int man : order) {
            Check.steps(x, m);
            x.rub(man);
        }
        int left = x.in(cell);
        x.from(0);
        return left;
    }

    /** "of like ones the first". */
    private static void emptiedFirst() {
        ClaySlips x = Check.told("street 2;water 0 5;man 0 1;man 0 1;man 0 1;slip 2\"(a)\";");
        for (int i = 0; i < 3; i++) {
            due("all alike " + i, x.emptied(60, 0, i), i);
        }
        ClaySlips y = Check.told("street 2;water 0 20;man 0 1;man 0 0;man 0 1;slip 1\"" + "+".repeat(20) + "\";");
        int[] want = {1, 0, 2};
        for (int i = 0; i < 3; i++) {
            due("1 ahead, 0 of the others " + i, y.emptied(3, 0, i), want[i]);
        }
        ClaySlips z = Check.told("street 2;water 0 20;man 0 0;man 0 1;man 0 1;slip 0\"" + "-".repeat(5) + "\";");
        for (int i = 0; i < 3; i++) {
            due("none comes of it " + i, z.emptied(3, 0, i), i);
        }
    }

    /** "the i-th MAN. -5: not so many. BAD: -10". */
    private static void emptiedNumbers() {
        for (int men = 0; men <= 3; men++) {
            ClaySlips x = new ClaySlips();
            x.water(0, 7);
            for (int i = 0; i < men; i++) {
                x.man(0, 0);
            }
            due("water", x.emptied(5, 0, NONE), 7);
            for (int i = 0; i < 5; i++) {
                due("man " + i + " of " + men, x.emptied(5, 0, i), i < men ? i : NOT_SO_MANY);
            }
            due("not so many is no BAD", x.status(0), 0);
            due("i -2", x.emptied(5, 0, -2), BAD_TEN);
            due("cell -1", x.emptied(5, -1, 0), BAD_TEN);
            due("cell 6", x.emptied(5, 6, 0), BAD_TEN);
            due("bad ahead of not so many", x.emptied(61, 0, 9), BAD_TEN);
            due("each counts as BAD", x.status(0), 4);
        }
    }

    /** "(a man whose SLIP is out has stopped)": he is there, and carries what he does. */
    private static void emptiedStopped() {
        ClaySlips x = Check.told("street 2;water 0 9;man 0 0;man 0 0;slip 0\"(a.)\";slip 1\"(a?+)\";");
        due("he is there still", x.emptied(8, 0, NONE), 7);
        due("the other ahead", x.emptied(8, 0, 0), 1);
        due("he carries it", x.run(40, 0, 0), 0);
    }
}
