import java.util.ArrayDeque;
import java.util.ArrayList;
import java.util.Deque;
import java.util.HashMap;
import java.util.List;
import java.util.Map;
import java.util.regex.Matcher;
import java.util.regex.Pattern;

/** The document written a second time: slow, with slips as texts and every state copied. */
final class PlainModel {
    private static final String ALPHABET = "<>+-.!?()wnlea";
    private static final Pattern CLOSED = Pattern.compile("\\([wnlea][<>+.!?-]*\\)");
    private static final Pattern BEGUN = Pattern.compile("[<>+.!?-]*(\\([wnlea][<>+.!?-]*)*(\\()?");
    private static final Pattern WHOLE = Pattern.compile("[<>+.!?-]*");

    static final class Golem {
        int kind, cell, load, place;
        boolean over;
        String slip = "";

        Golem copy() {
            Golem g = new Golem();
            g.kind = kind;
            g.cell = cell;
            g.load = load;
            g.place = place;
            g.over = over;
            g.slip = slip;
            return g;
        }

        boolean stopped() {
            return over || slip.isEmpty() || faultOf(slip) != -1;
        }
    }

    static final class World {
        int[] water = new int[6];
        List<Golem> men = new ArrayList<>();
        int number;
        int[] told = new int[4];
        Deque<World> past = new ArrayDeque<>();
        int waits;

        World copy() {
            World w = new World();
            w.water = water.clone();
            for (Golem g : men) {
                w.men.add(g.copy());
            }
            w.number = number;
            w.told = told.clone();
            return w;
        }

        World copyWithPast() {
            World w = copy();
            for (World p : past) {
                w.past.addLast(p.copy());
            }
            return w;
        }

        int going() {
            int going = 0;
            for (Golem g : men) {
                going += g.stopped() ? 0 : 1;
            }
            return going;
        }

        String key() {
            StringBuilder s = new StringBuilder();
            for (int w : water) {
                s.append(w).append(',');
            }
            for (Golem g : men) {
                s.append(g.cell).append(' ').append(g.load).append(' ').append(g.place).append(g.stopped()).append(';');
            }
            return s.append(number % 14).toString();
        }

        String end() {
            StringBuilder s = new StringBuilder();
            for (int w : water) {
                s.append(w).append(',');
            }
            for (Golem g : men) {
                s.append(g.cell).append(' ').append(g.load).append(';');
            }
            return s.toString();
        }

        World step() {
            waits = 0;
            for (int i = 0; i < men.size(); i++) {
                if (!men.get(i).stopped()) {
                    act(i);
                }
            }
            number++;
            return this;
        }

        private void act(int who) {
            Golem g = men.get(who);
            if (g.place == g.slip.length()) {
                g.over = true;
                return;
            }
            char sign = g.slip.charAt(g.place);
            boolean lame = (g.kind == 2 || g.kind == 5) && number % 2 != 0;
            boolean prays = g.kind == 5 && (number + 1) % 7 == 0;
            if (sign == '(') {
                g.place = so(g, g.slip.charAt(g.place + 1)) ? g.place + 2 : close(g.slip, g.place) + 1;
                return;
            }
            if (sign == ')') {
                int open = g.place - 1;
                while (g.slip.charAt(open) != '(' || close(g.slip, open) != g.place) {
                    open--;
                }
                g.place = open;
                return;
            }
            if (sign == '?' && g.kind != 3) {
                boolean other = false;
                for (Golem o : men) {
                    other |= o != g && o.cell == g.cell;
                }
                if (!other) {
                    waits += 1 << who;
                    return;
                }
            }
            if (sign == '<' && !lame) {
                g.cell = Math.max(0, g.cell - 1);
            }
            if (sign == '>' && !lame) {
                g.cell = Math.min(water.length - 1, g.cell + 1);
            }
            if (sign == '+' && !prays) {
                int wish = g.kind == 1 ? 2 : g.kind == 4 ? 99 : 1;
                int got = Math.min(wish, Math.min(water[g.cell], 20 - g.load));
                water[g.cell] -= got;
                g.load += got;
            }
            if (sign == '-' && !prays && g.load > 0 && water[g.cell] < 20) {
                g.load -= 1;
                water[g.cell] += 1;
            }
            if (sign == '!') {
                g.over = true;
            }
            g.place++;
        }

        private boolean so(Golem g, char question) {
            return switch (question) {
                case 'w' -> water[g.cell] != 0;
                case 'n' -> water[g.cell] == 0;
                case 'l' -> g.load != 0;
                case 'e' -> g.load == 0;
                default -> true;
            };
        }

        /** Steps until all have stopped, or -1; it stays in the end. */
        int settle() {
            for (int t = 0; t <= 400; t++) {
                if (going() == 0) {
                    return t;
                }
                step();
            }
            return -1;
        }
    }

    World now = new World();
    final World[] images = new World[2];
    final StringBuilder text = new StringBuilder();
    final int[] status = new int[3];

    private static final Map<String, Integer> KNOWN = new HashMap<>();

    /** The first sign with which no slip could begin as this one does. */
    static int faultOf(String slip) {
        Integer known = KNOWN.get(slip);
        if (known == null) {
            if (KNOWN.size() > 100000) {
                KNOWN.clear();
            }
            known = fault(slip);
            KNOWN.put(slip, known);
        }
        return known;
    }

    private static int fault(String slip) {
        for (int i = 0; i < slip.length(); i++) {
            if (!BEGUN.matcher(reduce(slip.substring(0, i + 1))).matches()) {
                return i;
            }
        }
        return WHOLE.matcher(reduce(slip)).matches() ? -1 : slip.length();
    }

    private static String reduce(String slip) {
        String s = slip;
        Matcher m = CLOSED.matcher(s);
        while (m.find()) {
            s = s.substring(0, m.start()) + s.substring(m.end());
            m = CLOSED.matcher(s);
        }
        return s;
    }

    private static int close(String slip, int open) {
        int depth = 0;
        for (int i = open; i < slip.length(); i++) {
            if (slip.charAt(i) == '(') {
                depth++;
            }
            if (slip.charAt(i) == ')' && --depth == 0) {
                return i;
            }
        }
        throw new IllegalStateException(slip);
    }

    private int refuse(int what, int answer) {
        status[what]++;
        return answer;
    }

    private boolean noMan(int man) {
        return man < 0 || man >= now.men.size();
    }

    private boolean noCell(int cell) {
        return cell < 0 || cell >= now.water.length;
    }

    int street(int n) {
        if (n < 2 || n > 9) {
            return refuse(0, -2);
        }
        int was = now.water.length;
        now = new World();
        now.water = new int[n];
        return was;
    }

    int water(int cell, int v) {
        if (noCell(cell) || v < 0 || v > 20) {
            return refuse(0, -2);
        }
        int was = now.water[cell];
        now.water[cell] = v;
        now.past.clear();
        return was;
    }

    int man(int kind, int cell) {
        if (kind < 0 || kind > 5 || noCell(cell)) {
            return refuse(0, -2);
        }
        if (now.men.size() == 3) {
            return refuse(2, -4);
        }
        Golem g = new Golem();
        g.kind = kind;
        g.cell = cell;
        now.men.add(g);
        now.past.clear();
        return now.men.size() - 1;
    }

    int write(int man, int sign) {
        if (noMan(man) || sign < 0 || sign > 13) {
            return refuse(0, -2);
        }
        Golem g = now.men.get(man);
        if (g.slip.length() == 24) {
            return refuse(2, -4);
        }
        g.slip += ALPHABET.charAt(sign);
        if (faultOf(g.slip) == -1) {
            g.over = false;
        }
        now.past.clear();
        return g.slip.length();
    }

    int rub(int man) {
        if (noMan(man)) {
            return refuse(0, -2);
        }
        Golem g = now.men.get(man);
        int was = g.slip.length();
        g.slip = "";
        g.place = 0;
        now.past.clear();
        return was;
    }

    int fault(int man) {
        return noMan(man) ? refuse(0, -10) : faultOf(now.men.get(man).slip);
    }

    int type(long v, int n) {
        if (n < 1 || n > 8) {
            return refuse(0, -2);
        }
        if (text.length() + n > 200) {
            return refuse(2, -4);
        }
        String bytes = String.format("%016x", v);
        for (int k = 8 - n; k < 8; k++) {
            text.append((char) Integer.parseInt(bytes.substring(2 * k, 2 * k + 2), 16));
        }
        return text.length();
    }

    int clear() {
        int was = text.length();
        text.setLength(0);
        return was;
    }

    private static final Pattern TOKEN = Pattern.compile(
        "(?<word>[a-z]+)|(?<number>[0-9]+)|\"(?<signs>[^\"]*)\"|(?<end>;)|(?<other>.)", Pattern.DOTALL);

    /** Each token as its sort and what it says: w, n, s, ; or x for what stands nowhere. */
    int read() {
        List<String> sorts = new ArrayList<>();
        List<String> says = new ArrayList<>();
        List<Integer> places = new ArrayList<>();
        Matcher m = TOKEN.matcher(text);
        for (int at = 0; at < text.length(); at = m.end()) {
            m.find(at);
            if (m.group().equals(" ")) {
                continue;
            }
            places.add(at);
            String sort = "x";
            if (m.group("word") != null && m.group().matches("street|water|man|slip")) {
                sort = m.group().substring(0, 1).equals("s") ? m.group().substring(0, 2) : m.group().substring(0, 1);
            } else if (m.group("number") != null && m.group().length() < 3) {
                sort = "n";
            } else if (m.group("signs") != null && m.group("signs").matches("[<>+.!?()wnlea-]{1,24}")) {
                sort = "q";
            } else if (m.group("end") != null) {
                sort = ";";
            }
            sorts.add(sort);
            says.add(sort.equals("q") ? m.group("signs") : m.group());
        }
        Map<String, String> rest = new HashMap<>();
        rest.put("st", "n ;");
        rest.put("w", "n n ;");
        rest.put("m", "n n ;");
        rest.put("sl", "n q ;");
        List<Integer> begins = new ArrayList<>();
        String[] awaited = {};
        int k = 0;
        for (int t = 0; t < sorts.size(); t++) {
            String sort = sorts.get(t);
            boolean fits;
            if (k == awaited.length) {
                fits = begins.isEmpty() ? sort.equals("st") : rest.containsKey(sort) && !sort.equals("st");
                if (fits) {
                    begins.add(t);
                    awaited = rest.get(sort).split(" ");
                    k = 0;
                }
            } else {
                fits = sort.equals(awaited[k]);
                k++;
            }
            if (!fits) {
                return -10 - places.get(t);
            }
        }
        if (begins.isEmpty() || k < awaited.length) {
            return -10 - text.length();
        }
        return obey(begins, sorts, says);
    }

    private int obey(List<Integer> begins, List<String> sorts, List<String> says) {
        World kept = now;
        int[] keptStatus = status.clone();
        now = new World();
        int refused = -1;
        for (int item = 0; item < begins.size() && refused == -1; item++) {
            int t = begins.get(item);
            int a = Integer.parseInt(says.get(t + 1));
            int answer = 0;
            switch (sorts.get(t)) {
                case "st" -> answer = street(a);
                case "w" -> answer = water(a, Integer.parseInt(says.get(t + 2)));
                case "m" -> answer = man(a, Integer.parseInt(says.get(t + 2)));
                default -> {
                    for (char c : says.get(t + 2).toCharArray()) {
                        answer = answer < 0 ? answer : write(a, ALPHABET.indexOf(c));
                    }
                }
            }
            if (answer < 0) {
                refused = item;
            }
        }
        System.arraycopy(keptStatus, 0, status, 0, 3);
        if (refused != -1) {
            now = kept;
            return -1000 - refused;
        }
        return begins.size();
    }

    int step() {
        now.past.addLast(now.copy());
        if (now.past.size() > 20) {
            now.past.removeFirst();
        }
        return now.step().going();
    }

    int undo() {
        if (now.past.isEmpty()) {
            return refuse(1, -3);
        }
        World ahead = now.past.removeLast();
        ahead.past = now.past;
        ahead.told = now.told;
        now = ahead;
        return 1;
    }

    int of(int man, int what) {
        if (noMan(man) || what < 0 || what > 3) {
            return refuse(0, -2);
        }
        Golem g = now.men.get(man);
        return new int[] {g.cell, g.load, g.place, g.stopped() ? 1 : 0}[what];
    }

    int in(int cell) {
        return noCell(cell) ? refuse(0, -2) : now.water[cell];
    }

    int run(int m, int cell, int what) {
        if (m < 0 || m > 400 || noCell(cell) || what < 0 || what > 1 || what == 1 && cell != 0) {
            return refuse(0, -10);
        }
        World w = now.copy();
        for (int t = 0; t < m; t++) {
            w.step();
        }
        return what == 0 ? w.water[cell] : w.going();
    }

    int stops() {
        return now.copy().settle();
    }

    int again(int what) {
        if (what < 0 || what > 2) {
            return refuse(0, -10);
        }
        World w = now.copy();
        Map<String, Integer> first = new HashMap<>();
        List<Integer> waits = new ArrayList<>();
        first.put(w.key(), 0);
        for (int t = 1; t <= 400; t++) {
            waits.add(w.step().waits);
            Integer s = first.putIfAbsent(w.key(), t);
            if (s != null) {
                int all = 7;
                for (int k = s; k < t; k++) {
                    all &= waits.get(k);
                }
                return new int[] {t, s, all}[what];
            }
        }
        return -1;
    }

    int rubbed(int man, int i) {
        if (noMan(man) || i < 0 || i >= now.men.get(man).slip.length()) {
            return refuse(0, -2);
        }
        World with = now.copy();
        World without = now.copy();
        Golem g = without.men.get(man);
        g.slip = g.slip.substring(0, i) + g.slip.substring(i + 1);
        g.place -= g.place > i ? 1 : 0;
        if (faultOf(g.slip) != -1) {
            return 0;
        }
        boolean ends = with.settle() != -1;
        if (without.settle() == -1) {
            return 3;
        }
        return ends && with.end().equals(without.end()) ? 1 : 2;
    }

    int danger(int man) {
        if (noMan(man)) {
            return refuse(0, -2);
        }
        int n = 0;
        for (int i = 0; i < now.men.get(man).slip.length(); i++) {
            n += rubbed(man, i) == 1 ? 0 : 1;
        }
        return n;
    }

    int thief(int man, int cell) {
        if (noMan(man) || noCell(cell) || now.men.get(man).slip.length() == 24) {
            return refuse(0, -2);
        }
        int best = -1;
        int most = -1;
        for (int at = 0; at <= now.men.get(man).slip.length(); at++) {
            for (int sign = 0; sign < 6; sign++) {
                World w = now.copy();
                Golem g = w.men.get(man);
                g.slip = g.slip.substring(0, at) + ALPHABET.charAt(sign) + g.slip.substring(at);
                g.place += g.place > at ? 1 : 0;
                if (w.settle() != -1 && w.water[cell] > most) {
                    most = w.water[cell];
                    best = 10 * at + sign;
                }
            }
        }
        return best;
    }

    int shortest(int man, int cell, int v, int i) {
        if (noMan(man) || noCell(cell) || v < 0 || v > 20 || i < -1) {
            return refuse(0, -10);
        }
        List<String> slips = new ArrayList<>(List.of(""));
        for (int k = 0; k < slips.size(); k++) {
            String slip = slips.get(k);
            World w = now.copy();
            Golem g = w.men.get(man);
            g.slip = slip;
            g.place = 0;
            g.over = false;
            if (w.settle() != -1 && w.water[cell] == v) {
                return i == -1 ? slip.length() : i >= slip.length() ? -5 : ALPHABET.indexOf(slip.charAt(i));
            }
            if (slip.length() < 5) {
                slips.addAll(List.of(slip + "<", slip + ">", slip + "+", slip + "-"));
            }
        }
        return -1;
    }

    int seen(int i, int c) {
        if (i < 1 || i > 4 || noCell(c)) {
            return refuse(0, -2);
        }
        int was = now.told[i - 1];
        now.told[i - 1] = c;
        return was;
    }

    int said(int man, int m) {
        if (noMan(man) || m < 1 || m > 4) {
            return refuse(0, -2);
        }
        List<String> slips = List.of("");
        for (int k = 0; k < m; k++) {
            List<String> longer = new ArrayList<>();
            for (String slip : slips) {
                for (char c : "<>+-.".toCharArray()) {
                    longer.add(slip + c);
                }
            }
            slips = longer;
        }
        int n = 0;
        for (String slip : slips) {
            World w = now.copy();
            Golem g = w.men.get(man);
            w.men.clear();
            w.men.add(g);
            g.slip = slip;
            g.place = 0;
            g.over = false;
            boolean there = true;
            for (int k = 0; k < m; k++) {
                w.step();
                there &= g.cell == now.told[k];
            }
            n += there ? 1 : 0;
        }
        return n;
    }

    int emptied(int m, int cell, int i) {
        if (m < 0 || m > 60 || noCell(cell) || i < -1) {
            return refuse(0, -10);
        }
        List<List<Integer>> orders = new ArrayList<>();
        orders(new ArrayList<>(), orders);
        int most = -1;
        List<Integer> best = null;
        for (List<Integer> order : orders) {
            World w = now.copy();
            for (int man : order) {
                for (int t = 0; t < m; t++) {
                    w.step();
                }
                w.men.get(man).slip = "";
            }
            if (w.water[cell] > most) {
                most = w.water[cell];
                best = order;
            }
        }
        return i == -1 ? most : i >= best.size() ? -5 : best.get(i);
    }

    private void orders(List<Integer> begun, List<List<Integer>> all) {
        if (begun.size() == now.men.size()) {
            all.add(new ArrayList<>(begun));
        }
        for (int man = 0; man < now.men.size(); man++) {
            if (!begun.contains(man)) {
                begun.add(man);
                orders(begun, all);
                begun.remove(begun.size() - 1);
            }
        }
    }

    int image(int i) {
        if (i != 0 && i != 1) {
            return refuse(0, -2);
        }
        images[i] = now.copyWithPast();
        return 1;
    }

    int from(int i) {
        if (i != 0 && i != 1) {
            return refuse(0, -2);
        }
        if (images[i] == null) {
            return refuse(1, -3);
        }
        now = images[i].copyWithPast();
        return 1;
    }

    int status(int what) {
        return what < 0 || what > 2 ? refuse(0, -1) : status[what];
    }

    int count(int what) {
        if (what < 0 || what > 4) {
            return refuse(0, -2);
        }
        return new int[] {now.water.length, now.men.size(), now.number, now.past.size(), text.length()}[what];
    }

    long digest() {
        List<Integer> all = new ArrayList<>();
        for (int what = 0; what < 5; what++) {
            all.add(count(what));
        }
        for (int w : now.water) {
            all.add(w);
        }
        for (Golem g : now.men) {
            all.addAll(List.of(g.kind, g.cell, g.load, g.place, g.stopped() ? 1 : 0, g.slip.length()));
            for (char c : g.slip.toCharArray()) {
                all.add(ALPHABET.indexOf(c));
            }
        }
        for (int c : now.told) {
            all.add(c);
        }
        long h = 809;
        for (int v : all) {
            h = 31 * h + v;
        }
        return h;
    }
}
