/** Promises 1 to 7: a new object, and what is done by hand. */
public final class LadsAndLoadsTest {
    public static void main(String[] args) {
        newObject();
        objectsAreApart();
        come();
        comeInTheMidst();
        setWay();
        setFork();
        forkSizeEdge();
        bring();
        bringWakes();
        rowOfIdleMinutesOutlivesHands();
        swap();
        swapWakesNobody();
        wake();
        Check.end();
    }

    private static void newObject() {
        HayThieves x = new HayThieves();
        for (int what = 0; what <= 11; what++) {
            Check.is("new: count(" + what + ")", x.count(what), 0);
        }
        Check.is("new: count(12)", x.count(12), 10);
        Check.is("new: thief()", x.thief(), -1);
        Check.refuses(x, Check.INDEX, "new: lad(0, 0)", () -> x.lad(0, 0));
        Check.refuses(x, Check.INDEX, "new: load(0, 0)", () -> x.load(0, 0));
        Check.is("new: pass(60)", x.pass(60), 0);
        Check.is("new: count(0) after it", x.count(0), 60);
    }

    private static void objectsAreApart() {
        HayThieves x = new HayThieves();
        HayThieves other = new HayThieves();
        x.come(4);
        x.bring(40);
        x.setFork(7);
        x.pass(5);
        Check.is("the other: count(0)", other.count(0), 0);
        Check.is("the other: count(1)", other.count(1), 0);
        Check.is("the other: count(2)", other.count(2), 0);
        Check.is("the other: count(12)", other.count(12), 10);
        Check.is("the other: come(1)", other.come(1), 0);
        Check.is("the other: lad(0, 0)", other.lad(0, 0), 1);
        Check.is("the other: lad(0, 3)", other.lad(0, 3), 0);
    }

    private static void come() {
        HayThieves x = new HayThieves();
        int[] wrong = {0, 10, -1, Integer.MIN_VALUE, Integer.MAX_VALUE};
        for (int strength : wrong) {
            Check.refuses(x, Check.ARGUMENT, "come(" + strength + ")", () -> x.come(strength));
        }
        int[] strengths = {1, 9, 5, 2, 8, 3};
        for (int i = 0; i < 6; i++) {
            Check.is("come", x.come(strengths[i]), i);
            Check.is("count(1)", x.count(1), i + 1);
        }
        int[] due = {0, 0, 0, 0, 0, 0, 0, 0, -1};
        for (int lad = 0; lad < 6; lad++) {
            due[0] = strengths[lad];
            for (int what = 0; what <= 8; what++) {
                Check.is("a new lad: lad(" + lad + ", " + what + ")", x.lad(lad, what), due[what]);
            }
        }
        Check.refuses(x, Check.STATE, "come(1) as seventh", () -> x.come(1));
        Check.refuses(x, Check.STATE, "come(9) as seventh", () -> x.come(9));
        for (int strength : wrong) {
            Check.refuses(x, Check.ARGUMENT, "come(" + strength + ") as seventh", () -> x.come(strength));
        }
    }

    private static void comeInTheMidst() {
        HayThieves x = new HayThieves();
        x.come(1);
        x.pass(3);
        Check.is("asleep after three idle minutes: lad(0, 3)", x.lad(0, 3), 3);
        Check.is("come(2)", x.come(2), 1);
        Check.is("who comes wakes nobody: lad(0, 3)", x.lad(0, 3), 3);
        Check.is("who comes is awake: lad(1, 3)", x.lad(1, 3), 0);
        x.pass(2);
        Check.is("own idle minutes alone: lad(1, 7)", x.lad(1, 7), 2);
        Check.is("two of them do not tire: lad(1, 3)", x.lad(1, 3), 0);
        x.pass(1);
        Check.is("the third one does: lad(1, 3)", x.lad(1, 3), 3);
    }

    private static void setWay() {
        HayThieves x = new HayThieves();
        Check.refuses(x, Check.INDEX, "setWay(0, 0) without lads", () -> x.setWay(0, 0));
        x.come(3);
        x.come(3);
        Check.is("setWay(1, 2)", x.setWay(1, 2), 0);
        Check.is("setWay(1, 1)", x.setWay(1, 1), 2);
        Check.is("setWay(1, 0)", x.setWay(1, 0), 1);
        Check.is("setWay(1, 2) again", x.setWay(1, 2), 0);
        Check.is("lad(1, 1)", x.lad(1, 1), 2);
        Check.is("lad(0, 1)", x.lad(0, 1), 0);
        int[][] wrong = {{-1, 0}, {2, 0}, {6, 0}, {0, -1}, {0, 3}, {2, 3},
            {Integer.MAX_VALUE, 1}, {Integer.MIN_VALUE, 1}, {0, Integer.MAX_VALUE}, {0, Integer.MIN_VALUE}};
        for (int[] w : wrong) {
            Check.refuses(x, Check.INDEX, "setWay(" + w[0] + ", " + w[1] + ")", () -> x.setWay(w[0], w[1]));
        }
    }

    private static void setFork() {
        HayThieves x = new HayThieves();
        Check.is("setFork(4)", x.setFork(4), 10);
        Check.is("setFork(60)", x.setFork(60), 4);
        Check.is("setFork(7)", x.setFork(7), 60);
        Check.is("count(12)", x.count(12), 7);
        for (int size : new int[] {3, 61, 0, -4, Integer.MIN_VALUE, Integer.MAX_VALUE}) {
            Check.refuses(x, Check.ARGUMENT, "setFork(" + size + ")", () -> x.setFork(size));
        }
    }

    private static void forkSizeEdge() {
        HayThieves x = new HayThieves();
        x.come(1);
        x.bring(12);
        x.setFork(12);
        x.pass(2);
        Check.is("12 bales at fork size 12: lad(0, 4)", x.lad(0, 4), 11);
        Check.is("12 bales at fork size 12: count(8)", x.count(8), 0);
        x.setFork(4);
        x.pass(1);
        Check.is("a heap of which a bale was pitched is not forked: lad(0, 4)", x.lad(0, 4), 10);
        HayThieves y = new HayThieves();
        y.come(1);
        y.bring(13);
        y.setFork(12);
        y.pass(2);
        Check.is("13 bales at fork size 12: lad(0, 4)", y.lad(0, 4), 6);
        Check.is("13 bales at fork size 12: cart(0, 0)", y.cart(0, 0), 7);
        Check.is("13 bales at fork size 12: count(8)", y.count(8), 1);
        Check.is("13 bales at fork size 12: count(11)", y.count(11), 0);
    }

    private static void bring() {
        HayThieves x = new HayThieves();
        int[] wrong = {0, 61, -1, Integer.MIN_VALUE, Integer.MAX_VALUE};
        for (int bales : wrong) {
            Check.refuses(x, Check.ARGUMENT, "bring(" + bales + ")", () -> x.bring(bales));
        }
        x.pass(4);
        int[] bales = {1, 60, 2, 3, 4, 5, 6, 7, 8, 9};
        for (int i = 0; i < 10; i++) {
            Check.is("bring", x.bring(bales[i]), i);
            Check.is("count(2)", x.count(2), i + 1);
            Check.is("count(4)", x.count(4), i + 1);
            int[] due = {bales[i], 0, 1, 0, 4, -1, 0};
            for (int what = 0; what <= 6; what++) {
                Check.is("a new load: load(" + i + ", " + what + ")", x.load(i, what), due[what]);
            }
        }
        Check.refuses(x, Check.STATE, "bring(1) as eleventh", () -> x.bring(1));
        for (int b : wrong) {
            Check.refuses(x, Check.ARGUMENT, "bring(" + b + ") as eleventh", () -> x.bring(b));
        }
        x.come(9);
        x.pass(2);
        Check.is("one load is done: count(3)", x.count(3), 1);
        Check.refuses(x, Check.STATE, "bring(1) after ten, one of them done", () -> x.bring(1));
    }

    private static void bringWakes() {
        HayThieves x = new HayThieves();
        for (int i = 0; i < 6; i++) {
            x.come(2);
        }
        x.pass(3);
        Check.is("all sleep: count(6)", x.count(6), 6);
        Check.refuses(x, Check.ARGUMENT, "bring(61) while all sleep", () -> x.bring(61));
        x.bring(1);
        Check.is("a load wakes all: count(6)", x.count(6), 0);
        Check.is("nothing to do yet: lad(5, 3)", x.lad(5, 3), 0);
        // Lad 0 takes it; the others are idle for three minutes anew.
        x.pass(2);
        Check.is("two idle minutes after waking: count(6)", x.count(6), 0);
        x.pass(1);
        Check.is("three idle minutes after waking: count(6)", x.count(6), 5);
        Check.is("lad(0, 7)", x.lad(0, 7), 4);
        Check.is("lad(5, 7)", x.lad(5, 7), 6);
    }

    private static void rowOfIdleMinutesOutlivesHands() {
        HayThieves x = new HayThieves();
        x.come(2);
        x.come(2);
        x.pass(2);
        x.bring(1);
        x.setWay(1, 1);
        x.setFork(5);
        x.swap(0, 1);
        x.pass(1);
        Check.is("a load ends the row of who takes it: lad(0, 3)", x.lad(0, 3), 1);
        Check.is("what is done by hand ends no row: lad(1, 3)", x.lad(1, 3), 3);
        // Lad 0 pitches in one minute, and is idle in the three after it.
        x.pass(3);
        Check.is("two idle minutes after work: lad(0, 3)", x.lad(0, 3), 0);
        x.pass(1);
        Check.is("three idle minutes after work: lad(0, 3)", x.lad(0, 3), 3);
        Check.is("lad(0, 7)", x.lad(0, 7), 5);
    }

    /** Lad 0 has forked 60 bales (30; 15; 7; 3 in the hands), lad 1 60 more in the hands. */
    private static HayThieves withHay() {
        HayThieves x = new HayThieves();
        x.setFork(4);
        x.come(1);
        x.bring(60);
        x.bring(60);
        x.pass(5);
        x.come(1);
        x.pass(1);
        return x;
    }

    private static void swap() {
        HayThieves none = new HayThieves();
        Check.refuses(none, Check.INDEX, "swap(0, 0) without lads", () -> none.swap(0, 0));
        HayThieves x = withHay();
        Check.is("before: lad(0, 2)", x.lad(0, 2), 4);
        Check.is("before: lad(1, 2)", x.lad(1, 2), 0);
        Check.refuses(x, Check.ARGUMENT, "swap(0, 0)", () -> x.swap(0, 0));
        Check.refuses(x, Check.ARGUMENT, "swap(1, 1)", () -> x.swap(1, 1));
        int[][] wrong = {{0, 2}, {2, 0}, {-1, 0}, {0, -1}, {2, 2}, {-1, -1},
            {Integer.MAX_VALUE, Integer.MAX_VALUE}, {0, Integer.MIN_VALUE}};
        for (int[] w : wrong) {
            Check.refuses(x, Check.INDEX, "swap(" + w[0] + ", " + w[1] + ")", () -> x.swap(w[0], w[1]));
        }
        Check.is("swap(0, 1)", x.swap(0, 1), 0);
        int[] due = {4, 8, 15, 30};
        for (int place = 0; place < 4; place++) {
            Check.is("swapped: cart(1, " + place + ")", x.cart(1, place), due[place]);
        }
        Check.is("swapped: lad(0, 2)", x.lad(0, 2), 0);
        Check.is("hands stay: lad(0, 4)", x.lad(0, 4), 2);
        Check.is("hands stay: lad(1, 4)", x.lad(1, 4), 60);
        Check.is("no theft: count(7)", x.count(7), 0);
        Check.is("no theft: lad(0, 5)", x.lad(0, 5), 0);
        Check.is("no theft: lad(1, 6)", x.lad(1, 6), 0);
        Check.is("swap(0, 1) back", x.swap(0, 1), 4);
        Check.is("swap(1, 0)", x.swap(1, 0), 4);
        x.pass(1);
        Check.is("who has the cart works on: lad(1, 2)", x.lad(1, 2), 5);
        Check.is("who has it not does not: lad(0, 2)", x.lad(0, 2), 0);
    }

    private static void swapWakesNobody() {
        HayThieves x = new HayThieves();
        x.come(1);
        x.come(1);
        x.pass(3);
        x.come(1);
        Check.is("swap(0, 1) of two who sleep", x.swap(0, 1), 0);
        Check.is("swap(2, 0) with one awake", x.swap(2, 0), 0);
        Check.is("lad(0, 3)", x.lad(0, 3), 3);
        Check.is("lad(1, 3)", x.lad(1, 3), 3);
        Check.is("count(6)", x.count(6), 2);
        x.pass(2);
        Check.is("who sleeps is not idle: lad(0, 7)", x.lad(0, 7), 3);
    }

    private static void wake() {
        HayThieves x = new HayThieves();
        Check.refuses(x, Check.INDEX, "wake(0) without lads", () -> x.wake(0));
        x.come(1);
        x.come(1);
        x.come(1);
        Check.refuses(x, Check.STATE, "wake(0) of one awake", () -> x.wake(0));
        x.pass(3);
        for (int lad : new int[] {-1, 3, 6, Integer.MAX_VALUE, Integer.MIN_VALUE}) {
            Check.refuses(x, Check.INDEX, "wake(" + lad + ")", () -> x.wake(lad));
        }
        Check.is("wake(1)", x.wake(1), 2);
        Check.is("lad(0, 3)", x.lad(0, 3), 3);
        Check.is("lad(1, 3)", x.lad(1, 3), 0);
        Check.is("lad(2, 3)", x.lad(2, 3), 3);
        Check.refuses(x, Check.STATE, "wake(1) again", () -> x.wake(1));
        x.pass(2);
        Check.is("the row begins anew: lad(1, 3)", x.lad(1, 3), 0);
        Check.is("wake(2)", x.wake(2), 1);
        x.pass(1);
        Check.is("three minutes later: lad(1, 3)", x.lad(1, 3), 3);
        Check.is("one minute later: lad(2, 3)", x.lad(2, 3), 0);
        Check.is("wake(0)", x.wake(0), 1);
        Check.is("wake(1)", x.wake(1), 0);
    }
}
