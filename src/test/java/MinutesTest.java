/** Promises 14 to 19: minutes, and what would be. */
public final class MinutesTest {
    private static final int[] WRONG_MINUTES = {0, -1, Integer.MIN_VALUE, 61, Integer.MAX_VALUE};

    public static void main(String[] args) {
        pass();
        passInOneOrMore();
        until();
        untilTheLastMinute();
        foresee();
        foreseeSleepers();
        foreseeRefuses();
        advise();
        adviseEdges();
        mean();
        digest();
        Check.end();
    }

    /** One lad of strength 1 and loads that are not forked: each takes a minute, and one for each bale. */
    private static HayThieves slow(int... loads) {
        HayThieves x = new HayThieves();
        x.setFork(60);
        x.come(1);
        for (int bales : loads) {
            x.bring(bales);
        }
        return x;
    }

    private static void pass() {
        HayThieves x = slow(1, 2, 3, 4);
        for (int minutes : WRONG_MINUTES) {
            Check.refuses(x, Check.ARGUMENT, "pass(" + minutes + ")", () -> x.pass(minutes));
        }
        // They are done in the minutes 1, 4, 8 and 13.
        Check.is("pass(1)", x.pass(1), 0);
        Check.is("pass(1)", x.pass(1), 1);
        Check.is("pass(3)", x.pass(3), 1);
        Check.is("pass(3)", x.pass(3), 0);
        Check.is("count(0)", x.count(0), 8);
        Check.is("pass(60)", x.pass(60), 2);
        Check.is("count(0)", x.count(0), 68);
        Check.is("pass(60) with all done", x.pass(60), 0);
        int[] due = {1, 4, 8, 13};
        for (int load = 0; load < 4; load++) {
            Check.is("load(" + load + ", 5)", x.load(load, 5), due[load]);
        }
    }

    private static void passInOneOrMore() {
        HayThieves x = busy();
        HayThieves y = busy();
        x.pass(47);
        for (int i = 0; i < 47; i++) {
            y.pass(1);
        }
        Check.same("pass(47) and 47 times pass(1)", Picture.of(x), Picture.of(y));
    }

    private static HayThieves busy() {
        HayThieves x = new HayThieves();
        x.setFork(4);
        for (int lad = 0; lad < 6; lad++) {
            x.come(lad + 1);
            x.setWay(lad, lad % 3);
        }
        for (int load = 0; load < 4; load++) {
            x.bring(60 - 7 * load);
        }
        x.pass(9);
        return x;
    }

    private static void until() {
        HayThieves x = slow(2, 3);
        for (int load : new int[] {-1, 2, 10, Integer.MIN_VALUE, Integer.MAX_VALUE}) {
            Check.refuses(x, Check.INDEX, "until(" + load + ")", () -> x.until(load));
        }
        String before = Picture.of(x);
        Check.is("until(0)", x.until(0), 3);
        Check.is("until(1)", x.until(1), 7);
        Check.same("until changes nothing", Picture.of(x), before);
        x.pass(2);
        Check.is("until(0) before the last bale", x.until(0), 1);
        Check.is("pass(1)", x.pass(1), 1);
        Check.is("until(0) when it is done", x.until(0), 0);
        Check.is("until(1)", x.until(1), 4);
        HayThieves none = new HayThieves();
        Check.refuses(none, Check.INDEX, "until(0) without loads", () -> none.until(0));
        none.bring(1);
        Check.is("until(0) without lads", none.until(0), -1);
    }

    private static void untilTheLastMinute() {
        // 61 minutes for each of the first four; then one, and one for each bale.
        HayThieves x = slow(60, 60, 60, 60, 55, 1);
        Check.is("until(3)", x.until(3), 244);
        Check.is("until(4)", x.until(4), 300);
        Check.is("until(5)", x.until(5), -1);
        HayThieves y = slow(60, 60, 60, 60, 56);
        Check.is("until(4) of 301 minutes", y.until(4), -1);
        y.pass(1);
        Check.is("until(4) a minute later", y.until(4), 300);
    }

    private static void foresee() {
        for (int minutes = 1; minutes <= 60; minutes++) {
            HayThieves x = busy();
            HayThieves later = busy();
            String before = Picture.of(x);
            later.pass(minutes);
            for (int what = 3; what <= 11; what++) {
                Check.is("foresee(" + minutes + ", " + what + ")", x.foresee(minutes, what), later.count(what));
            }
            Check.same("foresee changes nothing", Picture.of(x), before);
        }
        HayThieves y = slow(5, 5);
        int[] due = {1, 0, 0, 0, 0, 0, 0, 0, 5};
        for (int what = 3; what <= 11; what++) {
            Check.is("foresee(7, " + what + ")", y.foresee(7, what), due[what - 3]);
        }
    }

    private static void foreseeSleepers() {
        HayThieves x = new HayThieves();
        x.come(1);
        x.pass(1);
        Check.is("one idle minute: foresee(1, 6)", x.foresee(1, 6), 0);
        Check.is("one idle minute: foresee(2, 6)", x.foresee(2, 6), 1);
        x.pass(1);
        Check.is("two idle minutes: foresee(1, 6)", x.foresee(1, 6), 1);
        Check.is("two idle minutes: foresee(60, 10)", x.foresee(60, 10), 3);
        Check.is("count(6)", x.count(6), 0);
        x.bring(9);
        Check.is("with a load: foresee(10, 6)", x.foresee(10, 6), 0);
        Check.is("with a load: foresee(13, 6)", x.foresee(13, 6), 1);
    }

    private static void foreseeRefuses() {
        HayThieves x = slow(5);
        for (int minutes : WRONG_MINUTES) {
            Check.refuses(x, Check.ARGUMENT, "foresee(" + minutes + ", 3)", () -> x.foresee(minutes, 3));
            Check.refuses(x, Check.ARGUMENT, "foresee(" + minutes + ", 2)", () -> x.foresee(minutes, 2));
        }
        for (int what : new int[] {2, 12, 0, -1, 13, Integer.MIN_VALUE, Integer.MAX_VALUE}) {
            Check.refuses(x, Check.INDEX, "foresee(1, " + what + ")", () -> x.foresee(1, what));
            Check.refuses(x, Check.INDEX, "foresee(60, " + what + ")", () -> x.foresee(60, what));
        }
        Check.is("foresee(60, 11)", x.foresee(60, 11), 5);
        Check.is("foresee(1, 4)", x.foresee(1, 4), 0);
    }

    private static void advise() {
        // Strength 9 alone: 16 bales take 1 minute, then 2 unforked, so forking is lost time.
        HayThieves x = new HayThieves();
        x.come(9);
        x.bring(16);
        String before = Picture.of(x);
        Check.is("nothing is pitched yet: advise(1)", x.advise(1), 4);
        Check.is("unforked is best: advise(2)", x.advise(2), 16);
        Check.is("unforked is best: advise(3)", x.advise(3), 16);
        // Forked once at 8: fork, 8, 8, join: all are pitched behind 4 minutes, too; at 4 after 8.
        Check.is("advise(4)", x.advise(4), 8);
        Check.is("all is pitched with any of them: advise(40)", x.advise(40), 4);
        Check.same("advise changes nothing", Picture.of(x), before);
        // Two lads of strength 1: forked, both pitch.
        HayThieves y = new HayThieves();
        y.setFork(60);
        y.come(1);
        y.come(1);
        y.bring(60);
        Check.is("two share: advise(30)", y.advise(30), 32);
        Check.is("two share: count(12)", y.count(12), 60);
        HayThieves z = new HayThieves();
        z.come(1);
        z.bring(60);
        Check.is("60 bales alone: advise(10)", z.advise(10), 60);
    }

    private static void adviseEdges() {
        HayThieves x = slow(60);
        for (int minutes : new int[] {0, 41, 60, -1, Integer.MIN_VALUE, Integer.MAX_VALUE}) {
            Check.refuses(x, Check.ARGUMENT, "advise(" + minutes + ")", () -> x.advise(minutes));
        }
        Check.is("advise(40)", x.advise(40), 60);
        Check.is("advise(1)", x.advise(1), 4);
        Check.is("without lads: advise(40)", new HayThieves().advise(40), 4);
    }

    private static void mean() {
        HayThieves x = new HayThieves();
        Check.same("mean() without lads", x.mean(), 0.0);
        x.pass(5);
        Check.same("mean() without lads, later", x.mean(), 0.0);
        x.come(1);
        Check.same("mean() of a new lad", x.mean(), 0.0);
        x.pass(2);
        Check.same("mean() of one", x.mean(), 2.0);
        x.come(1);
        x.pass(1);
        // 3 and 1.
        Check.same("mean() of two", x.mean(), 2.0);
        x.come(1);
        x.pass(1);
        // 3, 2 and 1; lad 0 sleeps.
        Check.same("mean() of three", x.mean(), 2.0);
        x.pass(1);
        Check.same("mean() of three, later", x.mean(), 8 / 3.0);
    }

    private static void digest() {
        long due = 1531;
        for (int i = 0; i < 12; i++) {
            due *= 31;
        }
        Check.is("new: digest()", new HayThieves().digest(), due * 31 + 10);
        for (int minutes = 1; minutes <= 60; minutes++) {
            HayThieves x = busy();
            x.pass(minutes);
            long folded = folded(x);
            Check.is("digest()", x.digest(), folded);
            Check.is("digest() again", x.digest(), folded);
        }
    }

    private static long folded(HayThieves x) {
        long d = 1531;
        for (int what = 0; what <= 12; what++) {
            d = d * 31 + x.count(what);
        }
        for (int lad = 0; lad < x.count(1); lad++) {
            for (int what = 0; what <= 8; what++) {
                d = d * 31 + x.lad(lad, what);
            }
            for (int place = 0; place < x.lad(lad, 2); place++) {
                d = d * 31 + x.cart(lad, place);
            }
        }
        for (int load = 0; load < x.count(2); load++) {
            for (int what = 0; what <= 6; what++) {
                d = d * 31 + x.load(load, what);
            }
        }
        return d;
    }
}
