import java.util.function.ToIntFunction;

/** "Refused, changing nothing but STATUS, the first of: BAD, NO, FULL": each call, each of its numbers. */
public final class RefusedTest {
    private static final int NONE = -1, BAD = -2, NO = -3, FULL = -4, BAD_TEN = -10;
    private static final Check check = new Check("RefusedTest");
    private static final int[] WILD = {Integer.MIN_VALUE, Integer.MIN_VALUE + 1, -2147483639, -65536, -256, -20, -14, -9, -4, -3,
        -2, -1, 0, 1, 2, 3, 4, 5, 6, 7, 8, 9, 10, 13, 14, 20, 21, 23, 24, 25, 60, 61, 200, 201, 255, 256, 400, 401, 65536,
        0x01000000, 0x40000000, 2147483638, Integer.MAX_VALUE - 1, Integer.MAX_VALUE};

    public static void main(String[] args) {
        RefusedTest test = new RefusedTest();
        for (int w : WILD) {
            test.ofStreet(w);
            test.ofSteps(w);
            test.ofSlips(w);
            test.ofWhatThereIs(w);
        }
        test.wildTogether();
        test.full();
        test.no();
        check.end();
    }

    /** Three cells, two men with slips of four signs and of none, some steps done, an image 0, some text. */
    private static ClaySlips begun() {
        ClaySlips x = Check.after(3, "street 3;water 0 5;water 2 20;man 4 0;man 2 2;slip 0\"+>.-\";");
        x.seen(2, 1);
        x.image(0);
        Check.text(x, "street");
        return x;
    }

    /** A number w is told, that may be low to high: if not, what is due stands, and all else is as before. */
    private void outside(String call, int w, int low, int high, int due, ToIntFunction<ClaySlips> told) {
        if (w < low || w > high) {
            refused(call + " by " + w, begun(), due, due == NO ? 1 : due == FULL ? 2 : 0, told);
        } else {
            ClaySlips x = begun();
            int answer = told.applyAsInt(x);
            check.due(call + " by " + w + " is not refused, " + answer, x.status(0) + x.status(1) + x.status(2), 0);
        }
    }

    private void refused(String call, ClaySlips x, int due, int status, ToIntFunction<ClaySlips> told) {
        int[] ahead = {x.status(0), x.status(1), x.status(2)};
        long digest = x.digest();
        check.due(call, told.applyAsInt(x), due);
        check.due(call + ", all is as before", x.digest(), digest);
        for (int what = 0; what < 3; what++) {
            check.due(call + ", status " + what, x.status(what), ahead[what] + (what == status ? 1 : 0));
        }
        long undone = x.count(3);
        for (int k = 0; k < undone; k++) {
            check.due(call + ", undo", x.undo(), 1);
        }
    }

    private void ofStreet(int w) {
        outside("street", w, 2, 9, BAD, x -> x.street(w));
        outside("water cell", w, 0, 2, BAD, x -> x.water(w, 0));
        outside("water v", w, 0, 20, BAD, x -> x.water(0, w));
        outside("man kind", w, 0, 5, BAD, x -> x.man(w, 0));
        outside("man cell", w, 0, 2, BAD, x -> x.man(0, w));
        outside("write man", w, 0, 1, BAD, x -> x.write(w, 0));
        outside("write sign", w, 0, 13, BAD, x -> x.write(0, w));
        outside("rub", w, 0, 1, BAD, x -> x.rub(w));
        outside("fault", w, 0, 1, BAD_TEN, x -> x.fault(w));
        outside("type", w, 1, 8, BAD, x -> x.type(65, w));
    }

    private void ofSteps(int w) {
        outside("of man", w, 0, 1, BAD, x -> x.of(w, 0));
        outside("of what", w, 0, 3, BAD, x -> x.of(0, w));
        outside("in", w, 0, 2, BAD, x -> x.in(w));
        outside("run m", w, 0, 400, BAD_TEN, x -> x.run(w, 0, 0));
        outside("run cell", w, 0, 2, BAD_TEN, x -> x.run(1, w, 0));
        outside("run cell, what 1", w, 0, 0, BAD_TEN, x -> x.run(1, w, 1));
        outside("run what", w, 0, 1, BAD_TEN, x -> x.run(1, 0, w));
        outside("again", w, 0, 2, BAD_TEN, x -> x.again(w));
    }

    private void ofSlips(int w) {
        outside("rubbed man", w, 0, 0, BAD, x -> x.rubbed(w, 0));
        outside("rubbed i", w, 0, 3, BAD, x -> x.rubbed(0, w));
        outside("danger", w, 0, 1, BAD, x -> x.danger(w));
        outside("thief man", w, 0, 1, BAD, x -> x.thief(w, 0));
        outside("thief cell", w, 0, 2, BAD, x -> x.thief(0, w));
        outside("shortest man", w, 0, 1, BAD_TEN, x -> x.shortest(w, 0, 5, NONE));
        outside("shortest cell", w, 0, 2, BAD_TEN, x -> x.shortest(0, w, 5, NONE));
        outside("shortest v", w, 0, 20, BAD_TEN, x -> x.shortest(0, 0, w, NONE));
        outside("shortest i", w, NONE, Integer.MAX_VALUE, BAD_TEN, x -> x.shortest(0, 0, 5, w));
        outside("seen i", w, 1, 4, BAD, x -> x.seen(w, 0));
        outside("seen c", w, 0, 2, BAD, x -> x.seen(1, w));
        outside("said man", w, 0, 1, BAD, x -> x.said(w, 1));
        outside("said m", w, 1, 4, BAD, x -> x.said(0, w));
        outside("emptied m", w, 0, 60, BAD_TEN, x -> x.emptied(w, 0, NONE));
        outside("emptied cell", w, 0, 2, BAD_TEN, x -> x.emptied(1, w, NONE));
        outside("emptied i", w, NONE, Integer.MAX_VALUE, BAD_TEN, x -> x.emptied(1, 0, w));
    }

    private void ofWhatThereIs(int w) {
        outside("image", w, 0, 1, BAD, x -> x.image(w));
        if (w == 1) {
            outside("from", w, 0, 0, NO, x -> x.from(w));
        } else {
            outside("from", w, 0, 0, BAD, x -> x.from(w));
        }
        outside("status", w, 0, 2, -1, x -> x.status(w));
        outside("count", w, 0, 4, BAD, x -> x.count(w));
    }

    /** Several numbers that are not as told are one BAD; so is one ahead of FULL or NO. */
    private void wildTogether() {
        for (int w : new int[] {Integer.MIN_VALUE, -2, Integer.MAX_VALUE}) {
            bad("water", BAD, x -> x.water(w, w));
            bad("man", BAD, x -> x.man(w, w));
            bad("write", BAD, x -> x.write(w, w));
            bad("of", BAD, x -> x.of(w, w));
            bad("run", BAD_TEN, x -> x.run(w, w, w));
            bad("rubbed", BAD, x -> x.rubbed(w, w));
            bad("thief", BAD, x -> x.thief(w, w));
            bad("shortest", BAD_TEN, x -> x.shortest(w, w, w, w));
            bad("seen", BAD, x -> x.seen(w, w));
            bad("said", BAD, x -> x.said(w, w));
            bad("emptied", BAD_TEN, x -> x.emptied(w, w, w));
        }
        bad("emptied, not so many, m", BAD_TEN, x -> x.emptied(61, 0, 2));
        bad("shortest, not so many, v", BAD_TEN, x -> x.shortest(0, 0, 21, 9));
    }

    private void bad(String call, int due, ToIntFunction<ClaySlips> told) {
        refused(call + " all wild", begun(), due, 0, told);
    }

    private void full() {
        ClaySlips x = begun();
        x.man(0, 0);
        Check.slip(x, 1, ".".repeat(24));
        Check.text(x, "a".repeat(194));
        Check.steps(x, 2);
        refused("a fourth man", x, FULL, 2, y -> y.man(0, 0));
        Check.steps(x, 2);
        refused("a fourth man of no kind", x, BAD, 0, y -> y.man(6, 0));
        Check.steps(x, 2);
        refused("a 25th sign", x, FULL, 2, y -> y.write(1, 13));
        Check.steps(x, 2);
        refused("a 25th sign that is none", x, BAD, 0, y -> y.write(1, 14));
        Check.steps(x, 2);
        refused("a 201st byte", x, FULL, 2, y -> y.type(0, 1));
        Check.steps(x, 2);
        refused("nine bytes more", x, BAD, 0, y -> y.type(0, 9));
        Check.steps(x, 2);
        refused("a thief of a 25th sign", x, BAD, 0, y -> y.thief(1, 0));
    }

    private void no() {
        refused("undo", new ClaySlips(), NO, 1, ClaySlips::undo);
        refused("from 0", new ClaySlips(), NO, 1, x -> x.from(0));
        refused("from 1", begun(), NO, 1, x -> x.from(1));
        refused("from 2", new ClaySlips(), BAD, 0, x -> x.from(2));
    }
}
