/** Part 3 of the document: each sentence that names a bound, tried at the bound and beyond it. */
public final class ToldBoundsTest {
    private static final int NONE = -1, BAD = -2, NO = -3, FULL = -4;
    private static final Check check = new Check("ToldBoundsTest");

    private static void due(String what, long got, long want) {
        check.due(what, got, want);
    }

    public static void main(String[] args) {
        numbers();
        undoTwenty();
        undoAsAhead();
        undoLeftNone();
        undoLeftAll();
        undoAnew();
        typeBytes();
        typeFull();
        clear();
        readItems();
        readMostItems();
        readTokens();
        readEmpty();
        readCut();
        readOtherBytes();
        readWrongTokens();
        readWords();
        readOverOld();
        readAgain();
        readNumbers();
        readSigns();
        readRefused();
        readFirstRefused();
        readChangesNothing();
        readAlone();
        imagesNone();
        imagesKeep();
        imagesKeepNot();
        imagesGoOn();
        statusCounts();
        statusNone();
        statusItems();
        countBounds();
        digestOfAll();
        digestBySlips();
        lastCalls();
        check.end();
    }

    /** "STEPS have numbers: 0 at first, one more by each (one less by UNDO)". */
    private static void numbers() {
        ClaySlips x = new ClaySlips();
        due("at first", x.count(2), 0);
        for (int k = 1; k <= 60; k++) {
            x.step();
            due("one more", x.count(2), k);
        }
        for (int k = 59; k >= 40; k--) {
            x.undo();
            due("one less", x.count(2), k);
        }
        x.undo();
        due("refused, as before", x.count(2), 40);
        x.water(0, 1);
        x.man(0, 0);
        x.write(0, 4);
        due("told, as before", x.count(2), 40);
        x.street(6);
        due("a street anew", x.count(2), 0);
    }

    /** "UNDO .. (20 at most ..)"; "NO: none may be". */
    private static void undoTwenty() {
        ClaySlips x = Check.told("street 9;water 0 20;man 0 0;slip 0\"(w+)(l-)\";");
        due("none at first", x.count(3), 0);
        due("none at first", x.undo(), NO);
        long[] ahead = new long[41];
        for (int k = 0; k < 41; k++) {
            ahead[k] = x.digest();
            x.step();
            due("may be undone", x.count(3), Math.min(k + 1, 20));
        }
        for (int k = 40; k > 20; k--) {
            due("undo", x.undo(), 1);
            due("may be undone", x.count(3), k - 21);
            due("as ahead of it", x.digest() - partOfKept(x, k - 21, Math.min(k, 20)), ahead[k]);
        }
        due("no twenty-first", x.undo(), NO);
        due("refused, as before", x.count(2), 21);
        due("counts as NO", x.status(1), 2);
    }

    /** How far the digest differs when but the steps that may be undone are others. */
    private static long partOfKept(ClaySlips x, int kept, int keptAhead) {
        int behind = 1 + x.count(0) + 6 + 8 + 4;
        long part = kept - keptAhead;
        for (int k = 0; k < behind; k++) {
            part *= 31;
        }
        return part;
    }

    /** "as ahead of the last STEP": cell, load, place, water, who has stopped, the number. */
    private static void undoAsAhead() {
        ClaySlips x = Check.told("street 3;water 0 9;man 4 0;man 0 2;man 0 1;slip 0\"+>-!\";slip 1\".\";slip 2\"?\";");
        int[][][] want = {
            {{0, 0, 0, 0}, {2, 0, 0, 0}, {1, 0, 0, 0}},
            {{0, 9, 1, 0}, {2, 0, 1, 0}, {1, 0, 0, 0}},
            {{1, 9, 2, 0}, {2, 0, 1, 1}, {1, 0, 1, 0}},
            {{1, 8, 3, 0}, {2, 0, 1, 1}, {1, 0, 1, 1}},
            {{1, 8, 4, 1}, {2, 0, 1, 1}, {1, 0, 1, 1}}};
        int[][] water = {{9, 0}, {0, 0}, {0, 0}, {0, 1}, {0, 1}};
        for (int round = 0; round < 2; round++) {
            for (int k = 0; k < 5; k++) {
                for (int man = 0; man < 3; man++) {
                    check.man("behind " + k, x, man, want[k][man]);
                }
                due("water behind " + k, x.in(0), water[k][0]);
                due("water behind " + k, x.in(1), water[k][1]);
                x.step();
            }
            for (int k = 4; k >= 0; k--) {
                due("undo", x.undo(), 1);
                for (int man = 0; man < 3; man++) {
                    check.man("back behind " + k, x, man, want[k][man]);
                }
                due("back, water behind " + k, x.in(0), water[k][0]);
                due("back, water behind " + k, x.in(1), water[k][1]);
                due("back, number", x.count(2), k);
            }
        }
    }

    /** "(WATER, a MAN, a SIGN told, a SLIP rubbed leave none)"; a street told anew, too. */
    private static void undoLeftNone() {
        for (int change = 0; change < 8; change++) {
            ClaySlips x = Check.told("street 4;man 0 0;man 0 0;slip 0 \"..\";");
            Check.steps(x, 3);
            Check.text(x, "street 4;");
            due("three", x.count(3), 3);
            switch (change) {
                case 0: due("water", x.water(1, 1), 0); break;
                case 1: due("water as it was", x.water(0, 0), 0); break;
                case 2: due("man", x.man(0, 0), 2); break;
                case 3: due("write", x.write(0, 0), 3); break;
                case 4: due("rub", x.rub(0), 2); break;
                case 5: due("rub of an empty one", x.rub(1), 0); break;
                case 6: due("street", x.street(4), 4); break;
                default: due("read", x.read(), 1);
            }
            due("none is left by " + change, x.count(3), 0);
            due("none is left by " + change, x.undo(), NO);
            x.step();
            due("one anew by " + change, x.undo(), 1);
            due("one alone by " + change, x.undo(), NO);
        }
    }

    /** All other calls, and those refused, leave what may be undone. */
    private static void undoLeftAll() {
        ClaySlips x = Check.told("street 4;man 0 0;man 0 0;man 0 1;slip 1\"" + ".".repeat(24) + "\";");
        Check.steps(x, 3);
        x.water(4, 0);
        x.water(0, 21);
        x.man(6, 0);
        x.man(0, 0);
        x.write(0, 14);
        x.write(1, 0);
        x.rub(3);
        x.street(1);
        x.read();
        Check.text(x, "street 4;man 0 4;");
        x.read();
        x.clear();
        x.seen(1, 2);
        x.fault(0);
        x.run(400, 0, 0);
        x.stops();
        x.again(0);
        x.rubbed(1, 3);
        x.danger(1);
        x.thief(2, 0);
        x.shortest(0, 0, 0, NONE);
        x.said(0, 4);
        x.emptied(60, 0, 0);
        x.image(0);
        x.from(1);
        x.status(0);
        x.digest();
        due("three are left", x.count(3), 3);
        for (int k = 2; k >= 0; k--) {
            due("undo", x.undo(), 1);
            due("place", x.of(1, 2), k);
        }
        due("no more", x.undo(), NO);
    }

    /** Undone and done again: each step comes out as the first time. */
    private static void undoAnew() {
        ClaySlips x = Check.told("street 3;water 0 20;man 5 0;man 2 1;slip 0\"(w+>-<)\";slip 1\"(a<>)\";");
        Check.steps(x, 25);
        long ahead = x.digest();
        for (int back = 1; back <= 20; back++) {
            for (int k = 0; k < back; k++) {
                due("undo", x.undo(), 1);
            }
            Check.steps(x, back);
            due("as before, by " + back, x.digest(), ahead);
        }
    }

    /** "The lowest n (1 .. 8) bytes of v, the highest of them first". */
    private static void typeBytes() {
        String text = "street 9";
        long v = 0;
        for (char c : text.toCharArray()) {
            v = v << 8 | c;
        }
        ClaySlips x = new ClaySlips();
        due("eight", x.type(v, 8), 8);
        due("one of eight", x.type(v << 8 | ';', 1), 9);
        due("read", x.read(), 1);
        due("read", x.count(0), 9);
        for (int n = 1; n <= 8; n++) {
            ClaySlips y = new ClaySlips();
            for (int at = 0; at < 8; at += n) {
                long part = -1;
                int end = Math.min(at + n, 8);
                for (int k = at; k < end; k++) {
                    part = part << 8 | text.charAt(k);
                }
                due("by " + n, y.type(part, end - at), end);
            }
            y.type(';', 1);
            due("read by " + n, y.read(), 1);
            due("read by " + n, y.count(0), 9);
        }
        due("n 0", x.type(v, 0), BAD);
        due("n -1", x.type(v, -1), BAD);
        due("n 9", x.type(v, 9), BAD);
        due("as before", x.count(4), 9);
        ClaySlips z = new ClaySlips();
        due("any v", z.type(Long.MIN_VALUE, 8), 8);
        due("any v", z.type(Long.MAX_VALUE, 8), 16);
    }

    /** "200 bytes at most"; "FULL". */
    private static void typeFull() {
        for (int n = 1; n <= 8; n++) {
            ClaySlips x = new ClaySlips();
            Check.text(x, " ".repeat(200 - n));
            due("one too many", x.type(0, Math.min(n + 1, 8)), n == 8 ? 200 : FULL);
            x.clear();
            Check.text(x, " ".repeat(200 - n));
            due("just as many", x.type(0, n), 200);
            due("no more", x.type(0, 1), FULL);
            due("bad ahead of full", x.type(0, 0), BAD);
            due("bad ahead of full", x.type(0, 9), BAD);
            due("200", x.count(4), 200);
            due("cleared", x.clear(), 200);
            due("room again", x.type(0, 1), 1);
        }
        ClaySlips y = new ClaySlips();
        Check.text(y, "street 9;" + " ".repeat(187));
        due("refused as a whole", y.type(0x20202020202020L, 7), FULL);
        due("196", y.count(4), 196);
        due("no byte of it came", y.read(), 1);
    }

    /** "THE TEXT is empty: how many it had". */
    private static void clear() {
        ClaySlips x = new ClaySlips();
        due("none at first", x.clear(), 0);
        Check.text(x, "abc");
        due("three", x.clear(), 3);
        due("none", x.clear(), 0);
        due("empty", x.read(), -10);
        Check.text(x, "street 3;");
        due("from its begin", x.read(), 1);
    }

    /** "ITEMS, each ended by ;": how many. */
    private static void readItems() {
        String[] items = {"street 3;", "water 2 20;", "man 5 2;", "slip 0 \"<>+-.!?(w)(n)(l)(e)(a)\";", "man 0 0;", "water 0 1;"};
        StringBuilder text = new StringBuilder();
        for (int k = 0; k < items.length; k++) {
            text.append(items[k]);
            due("items", Check.reads(text.toString()), k + 1);
        }
        ClaySlips x = Check.told(text.toString());
        due("cells", x.count(0), 3);
        due("men", x.count(1), 2);
        due("water", x.in(2), 20);
        due("water", x.in(0), 1);
        check.man("man 0", x, 0, 2, 0, 0, 0);
        check.man("man 1", x, 1, 0, 0, 0, 1);
        long h = x.digest();
        ClaySlips y = new ClaySlips();
        y.street(3);
        y.water(2, 20);
        y.man(5, 2);
        Check.slip(y, 0, "<>+-.!?(w)(n)(l)(e)(a)");
        y.man(0, 0);
        y.water(0, 1);
        due("as by calls", y.digest(), h);
    }

    private static void readMostItems() {
        String text = "street9;" + "water8 1;".repeat(21);
        due("198 bytes", text.length() + 1, 198);
        due("22 items", Check.reads(text), 22);
        due("the 22nd refused", Check.reads(text.substring(0, 188) + "water9 1;"), -1021);
        due("200 bytes", Check.reads(text + "   "), 22);
        due("200 bytes, a fault at the last", Check.reads(text + "  ;"), -10 - 199);
        due("200 bytes, too early an end", Check.reads(text + "man"), -10 - 200);
    }

    /** "TOKENS ..; blanks (32) between": as many as one likes, or none. */
    private static void readTokens() {
        due("blanks", Check.reads("  street   2  ;  water  1   20 ; man 0  1 ;slip   0  \"<\"  ;  "), 4);
        due("none", Check.reads("street2;water1 20;man0 1;slip0\"<\";"), 4);
        due("between two figures", Check.reads("street 2;water 1 2 0;"), -10 - 19);
        due("in a word", Check.reads("stre et 2;"), -10);
        due("two numbers in one", Check.reads("street 2;water 120;"), -10 - 15);
        due("a word on a word", Check.reads("street 2;manman 0 0;"), -10 - 9);
        due("a word behind figures", Check.reads("street 2;water 1 1man;"), -10 - 18);
    }

    /** "the TEXT's length, if it ends too early (an empty one, too)". */
    private static void readEmpty() {
        ClaySlips x = new ClaySlips();
        for (int k = 0; k <= 200; k += 8) {
            due("blanks alone", x.read(), -10 - k);
            Check.text(x, "        ");
        }
        due("no item but street is there", Check.reads("street 2;"), 1);
        due("too early behind blanks", Check.reads("street 2;man 0 "), -10 - 15);
    }

    /** A text cut off at each byte: a word or " begun is a fault where it begins, else it ends too early. */
    private static void readCut() {
        String text = "street 2;water 0 13;man 0 1;slip 0 \"+<\";";
        int[] begins = new int[text.length()];
        int items = 0;
        boolean quoted = false;
        for (int k = 0; k < text.length(); k++) {
            char c = text.charAt(k);
            boolean goesOn = quoted || k > 0 && sort(c) < 2 && sort(c) == sort(text.charAt(k - 1));
            begins[k] = goesOn ? begins[k - 1] : k;
            quoted ^= c == '"';
        }
        for (int length = 0; length <= text.length(); length++) {
            String cut = text.substring(0, length);
            String last = length == 0 ? "" : cut.substring(begins[length - 1]);
            int want = -10 - length;
            if (last.equals(";")) {
                items++;
                want = items;
            } else if (last.matches("[a-z]+") && !last.matches("street|water|man|slip") || last.matches("\"[^\"]*")) {
                want = -10 - begins[length - 1];
            }
            due("cut to " + cut, Check.reads(cut), want);
        }
        due("four", items, 4);
    }

    private static int sort(char c) {
        return c >= 'a' && c <= 'z' ? 0 : c >= '0' && c <= '9' ? 1 : 2;
    }

    /** "another byte between \", .. a byte that begins none, too": put in at each place. */
    private static void readOtherBytes() {
        String text = "street 2;water 0 13;man 0 1;slip 0 \"+<\";";
        char[] others = {0, 9, 10, 13, 31, 33, 39, ',', '/', ':', '<', 'A', 'S', 'Z', '[', '`', '{', '~', 127, 128, 160, 's' + 128, 255};
        int quote = text.indexOf('"');
        int second = text.lastIndexOf('"');
        for (char other : others) {
            for (int at = 0; at <= text.length(); at++) {
                boolean among = at > quote && at <= second;
                boolean sign = Check.SIGNS.indexOf(other) >= 0;
                int fault = among ? quote : cutsWord(text, at) ? begin(text, at) : at;
                due("byte " + (int) other + " at " + at, Check.reads(text.substring(0, at) + other + text.substring(at)),
                    among && sign ? 4 : -10 - fault);
            }
        }
    }

    private static boolean cutsWord(String text, int at) {
        return at > 0 && at < text.length() && sort(text.charAt(at - 1)) == 0 && sort(text.charAt(at)) == 0;
    }

    /** Where the word begins that would be cut in two. */
    private static int begin(String text, int at) {
        int begin = at;
        while (begin > 0 && sort(text.charAt(begin - 1)) == 0) {
            begin--;
        }
        return begin;
    }

    /** "the first TOKEN that can not stand there": each token in the place of each. */
    private static void readWrongTokens() {
        String[][] items = {{"street", "2", ";"}, {"water", "1", "2", ";"}, {"man", "0", "1", ";"}, {"slip", "0", "\"+\"", ";"}};
        String[] tokens = {"street", "water", "man", "slip", "kind", "7", "\"+\"", ";"};
        StringBuilder begun = new StringBuilder();
        for (int item = 0; item < 4; item++) {
            for (int k = 0; k < items[item].length; k++) {
                for (String token : tokens) {
                    boolean stands = token.equals(items[item][k]) || token.equals("7") && items[item][k].matches("[0-9]")
                        || item > 0 && k == 0 && token.matches("water|man|slip");
                    String text = begun + token;
                    boolean ended = stands && token.equals(";");
                    int want = ended ? item + 1 : -10 - (stands ? text.length() : begun.length());
                    due(text, Check.reads(text), want);
                    if (!stands) {
                        due(text + " and more", Check.reads(text + " 1 1;street 2;"), want);
                    }
                }
                begun.append(items[item][k]).append(' ');
            }
        }
        due("street again", Check.reads("street 2;man 0 0;street 2;"), -10 - 17);
        due("anything ahead of street", Check.reads("water 0 0;street 2;"), -10);
        due("; ahead of street", Check.reads(";street 2;"), -10);
        due("; twice", Check.reads("street 2;;man 0 0;"), -10 - 9);
    }

    /** "words of letters a .. z .. (a word that is none ..)": each letter counts, and each letter more. */
    private static void readWords() {
        String[] items = {"street 2;", "water 0 0;", "man 0 0;", "slip 0 \".\";"};
        for (int item = 0; item < 4; item++) {
            String begin = item == 0 ? "" : item == 3 ? items[0] + items[2] : items[0];
            int length = items[item].indexOf(' ');
            for (int k = 0; k <= length; k++) {
                for (char c = 'a'; c <= 'z'; c++) {
                    String more = items[item].substring(0, k) + c + items[item].substring(k);
                    due(more, Check.reads(begin + more), -10 - begin.length());
                    String other = items[item].substring(0, k) + c + items[item].substring(Math.min(k + 1, length));
                    due(other, Check.reads(begin + other), other.equals(items[item]) ? item == 0 ? 1 : item == 3 ? 3 : 2
                        : -10 - begin.length());
                }
            }
            due("a letter less", Check.reads(begin + items[item].substring(1)), -10 - begin.length());
        }
    }

    /** A text typed over a longer one: what stood behind its end counts no more. */
    private static void readOverOld() {
        String[] texts = {"street 2", "street ", "str", "street 2;man 0 0;slip 0 \"+", "street 2;man 0 1", "street 2;man 0 ", ""};
        String[] olds = {"street 22", "street 2;", "street 2;", "street 2;man 0 0;slip 0 \"++\";", "street 2;man 0 11;",
            "street 2;man 0 1;", "street 2;"};
        int[] want = {-18, -17, -10, -34, -26, -25, -10};
        for (int k = 0; k < texts.length; k++) {
            ClaySlips x = new ClaySlips();
            Check.text(x, olds[k]);
            x.clear();
            Check.text(x, texts[k]);
            due(texts[k] + " over " + olds[k], x.read(), want[k]);
        }
        ClaySlips y = new ClaySlips();
        String full = "street 2;man 0 0;" + " ".repeat(174) + "slip 0 \".";
        Check.text(y, full);
        due("200 bytes, the last in a slip", y.count(4), 200);
        due("200 bytes, the last in a slip", y.read(), -10 - 198);
        y.clear();
        Check.text(y, "street 2;man 0 0;" + " ".repeat(183));
        due("200 bytes, blanks last", y.read(), 2);
        y.clear();
        Check.text(y, "street 2;man 0 0;" + " ".repeat(182) + "1");
        due("200 bytes, a figure last", y.read(), -10 - 199);
        y.clear();
        Check.text(y, " ".repeat(192) + "street 2");
        due("200 bytes, a number last", y.read(), -10 - 200);
    }

    /** Read again behind a refusal or a fault: nothing of it is left. */
    private static void readAgain() {
        ClaySlips x = new ClaySlips();
        Check.text(x, "street 2;water 2 0;");
        due("refused", x.read(), -1001);
        due("refused again", x.read(), -1001);
        x.clear();
        Check.text(x, "street 2;x");
        due("fault", x.read(), -19);
        due("fault again", x.read(), -19);
        x.clear();
        Check.text(x, "street 2;man 0 0;");
        due("read", x.read(), 2);
        due("read again", x.read(), 2);
        due("one man alone", x.count(1), 1);
    }

    /** "figures (1 or 2 are one number) .. a third figure's number". */
    private static void readNumbers() {
        due("one", Check.reads("street 9;"), 1);
        due("two", Check.reads("street 09;"), 1);
        due("three", Check.reads("street 009;"), -10 - 7);
        due("four", Check.reads("street 0009;"), -10 - 7);
        due("two, refused", Check.reads("street 99;"), -1000);
        due("00", Check.reads("street 00;"), -1000);
        due("three as the second", Check.reads("street 2;water 1 020;"), -10 - 17);
        due("three as the first", Check.reads("street 2;water 001 2;"), -10 - 15);
        due("three in a slip", Check.reads("street 2;man 0 0;slip 000 \"+\";"), -10 - 22);
        due("many", Check.reads("street " + "1".repeat(193)), -10 - 7);
        ClaySlips x = Check.told("street 09;water 08 19;man 05 07;slip 00 \"<\";");
        due("08", x.in(8), 19);
        due("07", x.of(0, 0), 7);
        due("00", x.of(0, 3), 0);
    }

    /** "a word of SIGNS (24 at most, not empty) between \" and \" .. more than 24, no second \"". */
    private static void readSigns() {
        String begin = "street 2;man 0 0;slip 0 \"";
        due("empty", Check.reads(begin + "\";"), -34);
        due("no second", Check.reads(begin), -34);
        due("no second", Check.reads(begin + ".".repeat(24)), -34);
        due("no second", Check.reads(begin + ".;"), -34);
        due("no ; behind", Check.reads(begin + ".\""), -10 - 27);
        due("a third", Check.reads(begin + ".\"\";"), -10 - 27);
        for (int n = 1; n <= 26; n++) {
            due("of " + n, Check.reads(begin + ".".repeat(n) + "\";"), n <= 24 ? 3 : -34);
        }
        due("150", Check.reads(begin + ".".repeat(150) + "\";"), -34);
        due("a blank", Check.reads(begin + ". .\";"), -34);
        due("a figure", Check.reads(begin + "1\";"), -34);
        due("a letter that is no sign", Check.reads(begin + "b\";"), -34);
        for (char c : Check.SIGNS.toCharArray()) {
            due("sign " + c, Check.reads(begin + c + "\";"), 3);
        }
        ClaySlips x = Check.told(begin + Check.SIGNS + "\";");
        due("a slip with a fault is told", x.fault(0), 8);
        due("in their order", x.rub(0), 14);
        ClaySlips y = Check.told("street 3;man 0 0;slip 0 \"(n>)\";slip 0 \"<!\";");
        due("behind what stands", y.rub(0), 6);
    }

    /** "the first ITEM (0 on) that is refused (as its call is)". */
    private static void readRefused() {
        due("street 0", Check.reads("street 0;"), -1000);
        due("street 1", Check.reads("street 1;"), -1000);
        due("street 2", Check.reads("street 2;"), 1);
        due("street 9", Check.reads("street 9;"), 1);
        due("street 10", Check.reads("street 10;"), -1000);
        due("cell 5", Check.reads("street 6;water 5 0;"), 2);
        due("cell 6", Check.reads("street 6;water 6 0;"), -1001);
        due("cell 6, of six at first", Check.reads("street 7;water 6 0;"), 2);
        due("cell 5, of six at first", Check.reads("street 5;water 5 0;"), -1001);
        due("water 20", Check.reads("street 2;water 0 20;"), 2);
        due("water 21", Check.reads("street 2;water 0 21;"), -1001);
        due("kind 5", Check.reads("street 2;man 5 0;"), 2);
        due("kind 6", Check.reads("street 2;man 6 0;"), -1001);
        due("man's cell 1", Check.reads("street 2;man 0 1;"), 2);
        due("man's cell 2", Check.reads("street 2;man 0 2;"), -1001);
        due("three men", Check.reads("street 2;" + "man 0 0;".repeat(3)), 4);
        due("four men", Check.reads("street 2;" + "man 0 0;".repeat(4)), -1004);
        due("no man", Check.reads("street 2;slip 0 \".\";"), -1001);
        due("no man yet", Check.reads("street 2;slip 0 \".\";man 0 0;"), -1001);
        due("man 1 of 1", Check.reads("street 2;man 0 0;slip 1 \".\";"), -1002);
        due("man 2 of 3", Check.reads("street 2;" + "man 0 0;".repeat(3) + "slip 2 \".\";"), 5);
        due("man 3 of 3", Check.reads("street 2;" + "man 0 0;".repeat(3) + "slip 3 \".\";"), -1004);
        String half = "slip 0 \"" + ".".repeat(12) + "\";";
        due("24 signs in two", Check.reads("street 2;man 0 0;" + half + half), 4);
        due("25 signs in three", Check.reads("street 2;man 0 0;" + half + half + "slip 0 \".\";"), -1004);
        due("25 signs in two", Check.reads("street 2;man 0 0;" + half + "slip 0 \"" + ".".repeat(13) + "\";"), -1003);
    }

    private static void readFirstRefused() {
        due("the first of two", Check.reads("street 2;water 2 0;man 6 0;"), -1001);
        due("the first of two", Check.reads("street 2;man 0 0;man 6 0;water 2 0;"), -1002);
        due("street ahead of all", Check.reads("street 1;water 2 0;"), -1000);
        due("a fault behind it goes ahead", Check.reads("street 1;water 2 0"), -10 - 18);
        due("a fault behind it goes ahead", Check.reads("street 2;man 9 0;x"), -10 - 17);
    }

    /** ".. that is refused: nothing changes"; nor by a fault. */
    private static void readChangesNothing() {
        String[] texts = {"street 2;man 0 0;slip 1 \".\";", "street 1;", "street 2;man 0 0;slip 0 \"x\";", "", "street 9;street 9;"};
        for (String text : texts) {
            ClaySlips x = Check.after(3, "street 5;water 1 7;man 4 1;man 2 3;slip 0\"(a+>-<)\";slip 1\"?\";");
            x.seen(3, 4);
            Check.text(x, text);
            long ahead = x.digest();
            due("not read", x.read() < 0 ? 1 : 0, 1);
            due("nothing changes", x.digest(), ahead);
            due("nothing changes", x.count(3), 3);
            due("no call was refused", x.status(0) + x.status(1) + x.status(2), 0);
            due("he goes on", x.step(), 2);
            due("he goes on", x.undo(), 1);
        }
    }

    /** "told anew by these alone": what was told ahead is gone. */
    private static void readAlone() {
        ClaySlips x = Check.after(3, "street 5;water 1 7;water 4 2;man 4 1;man 2 3;slip 0\"(a+>-<)\";slip 1\"?\";");
        x.seen(3, 4);
        Check.text(x, "street 9;man 0 8;");
        due("read", x.read(), 2);
        due("men", x.count(1), 1);
        check.man("man 0", x, 0, 8, 0, 0, 1);
        for (int c = 0; c < 9; c++) {
            due("water", x.in(c), 0);
        }
        due("number", x.count(2), 0);
        due("undone", x.count(3), 0);
        due("the text stays", x.count(4), 17);
        due("SAID's cell", x.seen(3, 0), 0);
        due("his slip is empty", x.rub(0), 0);
        x.man(0, 0);
        due("the next one's, too", x.rub(1), 0);
        due("again", x.read(), 2);
    }

    /** "IMAGES 0, 1"; "BAD; NO: none was kept". */
    private static void imagesNone() {
        ClaySlips x = new ClaySlips();
        due("from 0", x.from(0), NO);
        due("from 1", x.from(1), NO);
        due("from -1", x.from(-1), BAD);
        due("from 2", x.from(2), BAD);
        due("image -1", x.image(-1), BAD);
        due("image 2", x.image(2), BAD);
        due("image 1", x.image(1), 1);
        due("from 0 still", x.from(0), NO);
        due("from 1", x.from(1), 1);
        due("image 0", x.image(0), 1);
        due("from 0", x.from(0), 1);
        due("BAD", x.status(0), 4);
        due("NO", x.status(1), 3);
    }

    /** "keep all but them ..; STEPS that may be undone they keep; it goes on from one". */
    private static void imagesKeep() {
        ClaySlips x = Check.after(23, "street 5;water 1 7;man 4 1;man 2 3;slip 0\"(a+>-<)\";slip 1\"<!\";");
        x.seen(4, 3);
        long[] ahead = new long[21];
        x.image(0);
        for (int k = 0; k <= 20; k++) {
            ahead[k] = x.digest();
            x.undo();
        }
        x.street(9);
        x.man(0, 8);
        x.man(0, 8);
        x.man(0, 8);
        Check.steps(x, 5);
        x.image(1);
        long other = x.digest();
        due("from 0", x.from(0), 1);
        for (int k = 0; k <= 20; k++) {
            due("as kept, back " + k, x.digest(), ahead[k]);
            due("back", x.undo(), k < 20 ? 1 : NO);
        }
        due("the other", x.from(1), 1);
        due("the other", x.digest(), other);
        due("the other's steps", x.count(3), 5);
        due("the first again", x.from(0), 1);
        due("the first again", x.digest(), ahead[0]);
        due("SAID's cell", x.seen(4, 0), 3);
        due("from 0 once more", x.from(0), 1);
        due("SAID's cell as kept", x.seen(4, 0), 3);
    }

    /** ".. all but them, THE TEXT and STATUS". */
    private static void imagesKeepNot() {
        ClaySlips x = new ClaySlips();
        Check.text(x, "ab");
        x.street(0);
        x.image(0);
        x.street(1);
        x.undo();
        Check.text(x, "c");
        x.man(0, 0);
        x.image(1);
        x.from(0);
        due("the text", x.count(4), 3);
        due("status", x.status(0), 2);
        due("status", x.status(1), 1);
        due("the other image", x.from(1), 1);
        due("the other image", x.count(1), 1);
        x.image(0);
        x.street(4);
        due("over the old one", x.from(0), 1);
        due("over the old one", x.count(1), 1);
    }

    /** What is done behind `from` does not reach into the image. */
    private static void imagesGoOn() {
        ClaySlips x = Check.after(2, "street 5;water 1 7;man 4 1;slip 0\"(a+>-<)\";");
        x.image(0);
        long ahead = x.digest();
        for (int k = 0; k < 6; k++) {
            x.from(0);
            due("as kept", x.digest(), ahead);
            switch (k) {
                case 0: Check.steps(x, 30); break;
                case 1: x.water(3, 3); break;
                case 2: x.rub(0); x.write(0, 5); break;
                case 3: x.man(0, 0); break;
                case 4: x.undo(); x.undo(); break;
                default: x.street(2);
            }
            due("another", x.digest() == ahead ? 1 : 0, 0);
        }
        x.from(0);
        due("as kept", x.digest(), ahead);
        due("his steps", x.undo() + x.undo() + x.undo(), 1 + 1 + NO);
    }

    /** "STATUS: how many calls were refused as BAD, NO, FULL". */
    private static void statusCounts() {
        ClaySlips x = new ClaySlips();
        for (int k = 1; k <= 40; k++) {
            x.water(0, 21);
            due("BAD", x.status(0), k);
        }
        for (int k = 1; k <= 40; k++) {
            x.undo();
            due("NO", x.status(1), k);
        }
        for (int k = 0; k < 43; k++) {
            x.man(0, 0);
            due("FULL", x.status(2), Math.max(0, k - 2));
        }
        due("what -1", x.status(-1), -1);
        due("what 3", x.status(3), -1);
        due("counts as BAD", x.status(0), 42);
        due("what 1 as before", x.status(1), 40);
    }

    /** Answers that are no refusals count as none. */
    private static void statusNone() {
        ClaySlips x = Check.told("street 2;man 0 0;man 0 1;slip 0\"?\";");
        due("fault", x.fault(0), NONE);
        due("stops", x.stops(), NONE);
        due("shortest", x.shortest(0, 0, 5, NONE), NONE);
        due("not so many", x.shortest(0, 0, 0, 3), -5);
        due("not so many", x.emptied(0, 0, 2), -5);
        due("read", x.read(), -10);
        due("thief", x.thief(1, 0), 0);
        x.write(1, 7);
        due("fault", x.fault(1), 1);
        due("again", x.again(0), 14);
        due("thief for ever", Check.told("street 2;man 0 0;man 0 1;slip 0\"(a)\";").thief(1, 0), NONE);
        due("none", x.status(0) + x.status(1) + x.status(2), 0);
    }

    /** "ITEMS are none". */
    private static void statusItems() {
        String[] texts = {"street 1;", "street 2;water 5 5;", "street 2;" + "man 0 0;".repeat(4),
            "street 2;man 0 0;" + ("slip 0 \"" + ".".repeat(24) + "\";").repeat(2)};
        ClaySlips x = new ClaySlips();
        for (String text : texts) {
            Check.text(x, text);
            due("refused", x.read() <= -1000 ? 1 : 0, 1);
            x.clear();
        }
        due("none", x.status(0) + x.status(1) + x.status(2), 0);
    }

    /** "0 CELLS, 1 MEN, 2 STEPS' number, 3 that may be undone, 4 bytes of THE TEXT". */
    private static void countBounds() {
        ClaySlips x = Check.after(25, "street 9;man 0 0;man 0 0;man 0 0;");
        Check.text(x, "a".repeat(200));
        long[] want = {9, 3, 25, 20, 200};
        for (int what = 0; what <= 4; what++) {
            due("count " + what, x.count(what), want[what]);
        }
        due("what -1", x.count(-1), BAD);
        due("what 5", x.count(5), BAD);
        due("each counts as BAD", x.status(0), 2);
    }

    private static long digestOf(long... all) {
        long h = 809;
        for (long v : all) {
            h = 31 * h + v;
        }
        return h;
    }

    /** "h = 809; then h = 31 h + v for each v": beyond what a long holds, too. */
    private static void digestOfAll() {
        due("at first", new ClaySlips().digest(), digestOf(6, 0, 0, 0, 0, 0, 0, 0, 0, 0, 0, 0, 0, 0, 0));
        ClaySlips x = Check.after(1, "street 2;water 0 20;water 1 3;man 4 0;man 3 1;man 2 1;slip 0\"+(\";slip 2\"!>\";slip 1\"?\";");
        x.seen(1, 1);
        x.seen(3, 1);
        Check.text(x, "xyz");
        due("all", x.digest(), digestOf(2, 3, 1, 1, 3, 20, 3, 4, 0, 0, 0, 1, 2, 2, 7, 3, 1, 0, 1, 0, 1, 6,
            2, 1, 0, 1, 1, 2, 5, 1, 1, 0, 1, 0));
        ClaySlips y = Check.after(2, "street 2;water 0 20;man 4 0;slip 0\"+>\";");
        due("a load", y.digest(), digestOf(2, 1, 2, 2, 0, 0, 0, 4, 1, 20, 2, 0, 2, 2, 1, 0, 0, 0, 0));
        y.step();
        due("stopped", y.digest(), digestOf(2, 1, 3, 3, 0, 0, 0, 4, 1, 20, 2, 1, 2, 2, 1, 0, 0, 0, 0));
        x.rub(0);
        due("a slip less", x.digest(), digestOf(2, 3, 1, 0, 3, 20, 3, 4, 0, 0, 0, 1, 0, 3, 1, 0, 1, 0, 1, 6,
            2, 1, 0, 1, 1, 2, 5, 1, 1, 0, 1, 0));
    }

    private static void digestBySlips() {
        ClaySlips x = Check.told("street 9;man 0 0;man 0 0;man 0 0;");
        for (int man = 0; man < 3; man++) {
            Check.slip(x, man, ".".repeat(24));
        }
        long h = digestOf(9, 3, 0, 0, 0, 0, 0, 0, 0, 0, 0, 0, 0, 0);
        for (int man = 0; man < 3; man++) {
            for (long v : new long[] {0, 0, 0, 0, 0, 24}) {
                h = 31 * h + v;
            }
            for (int k = 0; k < 24; k++) {
                h = 31 * h + 4;
            }
        }
        for (int i = 0; i < 4; i++) {
            h = 31 * h;
        }
        due("the longest", x.digest(), h);
    }

    /** "at most 512 calls": the last of them answers as the first does. */
    private static void lastCalls() {
        ClaySlips x = new ClaySlips();
        x.man(0, 0);
        x.write(0, 1);
        for (int k = 3; k < 510; k++) {
            x.step();
        }
        due("the 510th", x.step(), 0);
        due("the 511th", x.undo(), 1);
        due("the 512th", x.count(2), 507);
    }
}
