import java.util.Random;

/** Random runs of 512 calls, each answered by ClaySlips and by PlainModel alike. */
public final class ModelTest {
    private static final String[] SLIPS = {"(w+>-<)", "?+<-", "<.<+>!>", "+>-(l-)", "(a<>)", "(e+>)(l-<)", "(w(e+)>(l-)<)",
        "(n>)+!", "(a?)", "(w++)>>---", "+?-?", "(a+>-<)", "(l-)(n<)", ".", "?", "(n)", "!>", "..(w+)?>(l-)"};

    public static void main(String[] args) {
        int runs = args.length > 0 ? Integer.parseInt(args[0]) : 150;
        Check check = new Check("ModelTest");
        for (int seed = 0; seed < runs; seed++) {
            new OneRun(seed, check).go();
        }
        check.end();
    }

    private static final class OneRun {
        private final Random random;
        private final int seed;
        private final Check check;
        private final ClaySlips real = new ClaySlips();
        private final PlainModel model = new PlainModel();
        private int calls = 0;
        private int dear = 0;

        OneRun(int seed, Check check) {
            this.seed = seed;
            this.check = check;
            random = new Random(seed);
        }

        void go() {
            while (calls < 512) {
                switch (random.nextInt(8)) {
                    case 0 -> text();
                    case 1 -> slip();
                    case 2 -> steps();
                    case 3 -> wild();
                    default -> ask();
                }
            }
        }

        private int below(int n) {
            int wild = random.nextInt(60);
            return wild == 0 ? -1 : wild == 1 ? n : wild == 2 ? random.nextInt() : random.nextInt(n);
        }

        private int man() {
            return below(Math.max(1, model.now.men.size()));
        }

        private int cell() {
            return below(model.now.water.length);
        }

        private void due(String call, long got, long want) {
            calls++;
            check.due("seed " + seed + " call " + calls + " " + call, got, want);
        }

        private void slip() {
            int man = man();
            if (random.nextInt(2) == 0) {
                due("rub " + man, real.rub(man), model.rub(man));
            }
            if (random.nextInt(3) == 0) {
                for (int k = random.nextInt(6); k >= 0; k--) {
                    int sign = below(14);
                    due("write " + man + " " + sign, real.write(man, sign), model.write(man, sign));
                }
            } else {
                for (char c : SLIPS[random.nextInt(SLIPS.length)].toCharArray()) {
                    int sign = Check.SIGNS.indexOf(c);
                    due("write " + man + " " + sign, real.write(man, sign), model.write(man, sign));
                }
            }
        }

        private void text() {
            StringBuilder s = new StringBuilder("street " + (random.nextInt(12) == 0 ? random.nextInt(120) : 2 + random.nextInt(8)) + ";");
            for (int k = random.nextInt(3); k >= 0; k--) {
                s.append(" water ").append(random.nextInt(random.nextInt(9) == 0 ? 9 : 2)).append(' ').append(random.nextInt(21 + random.nextInt(2))).append(';');
            }
            for (int k = random.nextInt(3), men = 0; k >= 0; k--, men++) {
                s.append("man ").append(random.nextInt(12) == 0 ? 6 : random.nextInt(6)).append(' ')
                    .append(random.nextInt(random.nextInt(9) == 0 ? 9 : 2)).append(';');
                if (random.nextInt(3) > 0) {
                    s.append("slip ").append(random.nextInt(9) == 0 ? random.nextInt(3) : men).append('"')
                        .append(SLIPS[random.nextInt(SLIPS.length)]).append("\";");
                }
            }
            for (int k = random.nextInt(6); k < 2 && s.length() > 0; k++) {
                int at = random.nextInt(s.length());
                String odd = "; \"3s(+xm,\u00e9\u0000";
                switch (random.nextInt(3)) {
                    case 0 -> s.deleteCharAt(at);
                    case 1 -> s.insert(at, odd.charAt(random.nextInt(odd.length())));
                    default -> s.setLength(at);
                }
            }
            if (random.nextInt(9) > 0) {
                due("clear", real.clear(), model.clear());
            }
            for (int at = 0; at < s.length(); ) {
                int n = Math.min(random.nextInt(8) == 0 ? 1 + random.nextInt(8) : 8, s.length() - at);
                long v = random.nextLong();
                for (int k = 0; k < n; k++) {
                    v = v << 8 | s.charAt(at + k);
                }
                at += n;
                due("type " + v + " " + n, real.type(v, n), model.type(v, n));
            }
            due("read " + s, real.read(), model.read());
            due("digest", real.digest(), model.digest());
        }

        private void steps() {
            for (int k = random.nextInt(12); k >= 0; k--) {
                if (random.nextInt(4) == 0) {
                    due("undo", real.undo(), model.undo());
                } else {
                    due("step", real.step(), model.step());
                }
            }
            due("digest", real.digest(), model.digest());
        }

        private void wild() {
            int a = below(10);
            int b = below(21);
            int i = below(3);
            switch (random.nextInt(9)) {
                case 0 -> due("street " + a, real.street(a), model.street(a));
                case 1, 2 -> due("water " + cell() + " ", real.water(i, b), model.water(i, b));
                case 3, 4 -> due("man " + a, real.man(a % 6, i), model.man(a % 6, i));
                case 5 -> due("image " + i, real.image(i), model.image(i));
                case 6 -> due("from " + i, real.from(i), model.from(i));
                case 7 -> due("type", real.type(a, b), model.type(a, b));
                default -> due("status " + a, real.status(i), model.status(i));
            }
            due("digest", real.digest(), model.digest());
        }

        private void ask() {
            int man = man();
            int cell = cell();
            int what = below(4);
            int m = below(401);
            switch (random.nextInt(17)) {
                case 0 -> due("fault " + man, real.fault(man), model.fault(man));
                case 1 -> due("of " + man + " " + what, real.of(man, what), model.of(man, what));
                case 2 -> due("in " + cell, real.in(cell), model.in(cell));
                case 3 -> due("run " + m + " " + cell, real.run(m, cell, 0), model.run(m, cell, 0));
                case 4 -> due("run " + m + " 0 1", real.run(m, 0, what), model.run(m, 0, what));
                case 5 -> due("stops", real.stops(), model.stops());
                case 6, 7 -> due("again " + what, real.again(what), model.again(what));
                case 8 -> due("rubbed " + man + " " + what, real.rubbed(man, m % 8), model.rubbed(man, m % 8));
                case 9 -> due("danger " + man, real.danger(man), model.danger(man));
                case 10 -> due("seen", real.seen(what + 1, cell), model.seen(what + 1, cell));
                case 11 -> due("said", real.said(man, what + 1), model.said(man, what + 1));
                case 12 -> due("emptied", real.emptied(m % 61, cell, what - 1), model.emptied(m % 61, cell, what - 1));
                case 13 -> due("status", real.status(what), model.status(what));
                case 14 -> due("count", real.count(what + 1), model.count(what + 1));
                case 15 -> thief(man, cell);
                default -> shortest(man, cell, below(12), what - 1);
            }
        }

        private void thief(int man, int cell) {
            if (dear++ < 10) {
                due("thief " + man + " " + cell, real.thief(man, cell), model.thief(man, cell));
            }
        }

        private void shortest(int man, int cell, int v, int i) {
            if (dear++ < 10) {
                due("shortest " + man + " " + cell + " " + v + " " + i, real.shortest(man, cell, v, i),
                    model.shortest(man, cell, v, i));
            }
        }
    }
}
