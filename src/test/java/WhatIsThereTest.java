/** Promises 8 to 13: what is told of lads, carts, loads and all. */
public final class WhatIsThereTest {
    public static void main(String[] args) {
        ladsMinuteByMinute();
        loadsAndCounts();
        ladRefuses();
        cart();
        loadAndCountRefuse();
        victimByNumbers();
        victimByHeaps();
        victimByBales();
        thief();
        Check.end();
    }

    /**
     * A load of 20 bales, a lad of strength 3 and one of strength 5: taken, forked into 10 and 10,
     * the second half stolen, pitched by 3 (10 7 4 1 0) and by 5 (10 5 0), joined in the minute 6.
     */
    private static HayThieves twenty() {
        HayThieves x = new HayThieves();
        x.come(3);
        x.come(5);
        x.bring(20);
        return x;
    }

    private static void ladsMinuteByMinute() {
        HayThieves x = twenty();
        // For both lads: heaps in the cart, doing, bales left, thefts, thefts from, idle, load.
        int[][] due = {
            {0, 0, 0, 0, 0, 0, -1, 0, 0, 0, 0, 0, 0, -1},
            {0, 1, 20, 0, 0, 0, 0, 0, 0, 0, 0, 0, 1, -1},
            {0, 1, 10, 0, 1, 0, 0, 0, 1, 10, 1, 0, 1, 0},
            {0, 1, 7, 0, 1, 0, 0, 0, 1, 5, 1, 0, 1, 0},
            {0, 1, 4, 0, 1, 0, 0, 0, 0, 0, 1, 0, 1, -1},
            {0, 1, 1, 0, 1, 0, 0, 0, 0, 0, 1, 0, 2, -1},
            {0, 2, 0, 0, 1, 0, 0, 0, 0, 0, 1, 0, 3, -1},
            {0, 0, 0, 0, 1, 0, -1, 0, 3, 0, 1, 0, 4, -1},
            {0, 0, 0, 0, 1, 1, -1, 0, 3, 0, 1, 0, 4, -1},
            {0, 0, 0, 0, 1, 2, -1, 0, 3, 0, 1, 0, 4, -1},
            {0, 3, 0, 0, 1, 3, -1, 0, 3, 0, 1, 0, 4, -1},
        };
        for (int minute = 0; minute < due.length; minute++) {
            for (int i = 0; i < 14; i++) {
                int lad = i / 7;
                int what = 2 + i % 7;
                Check.is("minute " + minute + ": lad(" + lad + ", " + what + ")", x.lad(lad, what), due[minute][i]);
            }
            Check.is("lad(0, 0)", x.lad(0, 0), 3);
            Check.is("lad(1, 0)", x.lad(1, 0), 5);
            x.pass(1);
        }
    }

    private static void loadsAndCounts() {
        HayThieves x = twenty();
        // The load: state, heaps, thefts, done at, pitched; counts 3 to 11.
        int[][] due = {
            {0, 1, 0, -1, 0, 0, 1, 0, 0, 0, 0, 0, 0, 0},
            {1, 1, 0, -1, 0, 0, 0, 0, 0, 0, 0, 0, 1, 0},
            {1, 3, 1, -1, 0, 0, 0, 0, 0, 1, 1, 0, 1, 0},
            {1, 3, 1, -1, 8, 0, 0, 0, 0, 1, 1, 0, 1, 8},
            {1, 3, 1, -1, 16, 0, 0, 0, 0, 1, 1, 0, 1, 16},
            {1, 3, 1, -1, 19, 0, 0, 0, 0, 1, 1, 0, 2, 19},
            {1, 3, 1, -1, 20, 0, 0, 0, 0, 1, 1, 0, 3, 20},
            {2, 3, 1, 6, 20, 1, 0, 0, 1, 1, 1, 1, 4, 20},
            {2, 3, 1, 6, 20, 1, 0, 0, 1, 1, 1, 1, 5, 20},
            {2, 3, 1, 6, 20, 1, 0, 0, 1, 1, 1, 1, 6, 20},
            {2, 3, 1, 6, 20, 1, 0, 0, 2, 1, 1, 1, 7, 20},
        };
        int[] whats = {1, 2, 3, 5, 6};
        for (int minute = 0; minute < due.length; minute++) {
            for (int i = 0; i < 5; i++) {
                Check.is("minute " + minute + ": load(0, " + whats[i] + ")", x.load(0, whats[i]), due[minute][i]);
            }
            for (int what = 3; what <= 11; what++) {
                Check.is("minute " + minute + ": count(" + what + ")", x.count(what), due[minute][what + 2]);
            }
            Check.is("count(0)", x.count(0), minute);
            Check.is("count(1)", x.count(1), 2);
            Check.is("count(2)", x.count(2), 1);
            Check.is("count(12)", x.count(12), 10);
            Check.is("load(0, 0)", x.load(0, 0), 20);
            Check.is("load(0, 4)", x.load(0, 4), 0);
            x.pass(1);
        }
        x.bring(7);
        Check.is("brought later: load(1, 4)", x.load(1, 4), 11);
        // Taken in the minute 11, pitched by 3 in the minutes 12, 13 and 14.
        x.pass(4);
        Check.is("done later: load(1, 5)", x.load(1, 5), 14);
        Check.is("of both: count(11)", x.count(11), 27);
        Check.is("of both: count(3)", x.count(3), 2);
    }

    private static void ladRefuses() {
        HayThieves none = new HayThieves();
        Check.refuses(none, Check.INDEX, "lad(0, 0) without lads", () -> none.lad(0, 0));
        HayThieves x = twenty();
        int[][] wrong = {{-1, 0}, {2, 0}, {6, 0}, {0, -1}, {0, 9}, {1, 9},
            {Integer.MAX_VALUE, 0}, {Integer.MIN_VALUE, 0}, {0, Integer.MAX_VALUE}, {0, Integer.MIN_VALUE}};
        for (int[] w : wrong) {
            Check.refuses(x, Check.INDEX, "lad(" + w[0] + ", " + w[1] + ")", () -> x.lad(w[0], w[1]));
        }
        for (int lad : new int[] {-1, 2, 6, Integer.MAX_VALUE, Integer.MIN_VALUE}) {
            Check.refuses(x, Check.INDEX, "victim(" + lad + ")", () -> x.victim(lad));
            Check.refuses(x, Check.INDEX, "cart(" + lad + ", 0)", () -> x.cart(lad, 0));
        }
    }

    private static void cart() {
        HayThieves x = new HayThieves();
        x.come(2);
        x.setFork(4);
        x.bring(59);
        Check.refuses(x, Check.INDEX, "cart(0, 0) of an empty cart", () -> x.cart(0, 0));
        // 59: 29 and 30; 29: 14 and 15; 14: 7 and 7; 7: 3 and 4.
        x.pass(5);
        int[] due = {4, 7, 15, 30};
        for (int place = 0; place < 4; place++) {
            Check.is("cart(0, " + place + ")", x.cart(0, place), due[place]);
        }
        Check.is("lad(0, 4)", x.lad(0, 4), 3);
        for (int place : new int[] {4, 7, 8, -1, Integer.MAX_VALUE, Integer.MIN_VALUE}) {
            Check.refuses(x, Check.INDEX, "cart(0, " + place + ")", () -> x.cart(0, place));
        }
        // The heap of 3 takes two minutes more; then the one of 4 is taken from the near end.
        x.pass(3);
        Check.is("from the near end: lad(0, 4)", x.lad(0, 4), 2);
        Check.is("from the near end: cart(0, 0)", x.cart(0, 0), 7);
        Check.is("from the near end: lad(0, 2)", x.lad(0, 2), 3);
        x.come(1);
        x.pass(1);
        Check.is("from the far end: lad(1, 4)", x.lad(1, 4), 30);
        Check.is("from the far end: lad(0, 2)", x.lad(0, 2), 2);
        Check.is("from the far end: cart(0, 1)", x.cart(0, 1), 15);
        Check.refuses(x, Check.INDEX, "cart(0, 2)", () -> x.cart(0, 2));
        Check.refuses(x, Check.INDEX, "cart(1, 0)", () -> x.cart(1, 0));
    }

    private static void loadAndCountRefuse() {
        HayThieves x = twenty();
        int[][] wrong = {{-1, 0}, {1, 0}, {10, 0}, {0, -1}, {0, 7},
            {Integer.MAX_VALUE, 0}, {Integer.MIN_VALUE, 0}, {0, Integer.MAX_VALUE}, {0, Integer.MIN_VALUE}};
        for (int[] w : wrong) {
            Check.refuses(x, Check.INDEX, "load(" + w[0] + ", " + w[1] + ")", () -> x.load(w[0], w[1]));
        }
        for (int what : new int[] {-1, 13, Integer.MAX_VALUE, Integer.MIN_VALUE}) {
            Check.refuses(x, Check.INDEX, "count(" + what + ")", () -> x.count(what));
        }
    }

    /**
     * Loads of the lads 0, 1 and 2, who forked them at fork size 10 in two minutes; lad 3, who
     * came then, has had no turn.
     */
    private static HayThieves forked(int first, int second, int third) {
        HayThieves x = new HayThieves();
        x.bring(first);
        x.bring(second);
        x.bring(third);
        x.come(1);
        x.come(1);
        x.come(1);
        x.pass(3);
        x.come(1);
        return x;
    }

    private static void setWays(HayThieves x, int way) {
        for (int lad = 0; lad < x.count(1); lad++) {
            x.setWay(lad, way);
        }
    }

    private static void victims(String what, HayThieves x, int... due) {
        for (int lad = 0; lad < due.length; lad++) {
            Check.is(what + ": victim(" + lad + ")", x.victim(lad), due[lad]);
        }
    }

    private static void victimByNumbers() {
        HayThieves none = new HayThieves();
        none.come(1);
        victims("one lad alone", none, -1);
        none.bring(60);
        none.pass(2);
        victims("not from oneself", none, -1);
        none.setWay(0, 1);
        victims("not from oneself by heaps", none, -1);
        none.setWay(0, 2);
        victims("not from oneself by bales", none, -1);

        // Carts: 6; 8 15; 8 16; empty.
        HayThieves x = forked(12, 30, 31);
        victims("by numbers", x, 1, 2, 0, 0);
        x.swap(0, 3);
        victims("by numbers, cart 0 is empty", x, 1, 2, 3, 1);
    }

    private static void victimByHeaps() {
        HayThieves x = forked(12, 30, 31);
        setWays(x, 1);
        victims("by heaps", x, 1, 2, 1, 1);
        x.swap(1, 3);
        victims("by heaps, cart 1 is empty", x, 2, 2, 3, 2);
        // Lad 3 steals the far 16 of lad 2, so that all carts that are not empty have one heap.
        x.swap(1, 3);
        x.setWay(3, 2);
        x.pass(1);
        Check.is("the theft by bales: lad(2, 6)", x.lad(2, 6), 1);
        Check.is("the theft by bales: lad(3, 4)", x.lad(3, 4), 16);
        setWays(x, 1);
        victims("by heaps, 1 2 1 0", x, 1, 0, 1, 1);
    }

    private static void victimByBales() {
        HayThieves x = forked(12, 30, 31);
        setWays(x, 2);
        victims("by bales, 6 15 16", x, 2, 2, 1, 2);
        HayThieves y = forked(30, 29, 30);
        setWays(y, 2);
        victims("by bales, 15 15 15", y, 1, 0, 0, 0);
        HayThieves z = forked(60, 12, 59);
        setWays(z, 2);
        // Carts: 15 30; 6; 15 30.
        victims("by bales, 30 6 30", z, 2, 0, 0, 0);
        HayThieves sleeper = new HayThieves();
        sleeper.setFork(60);
        sleeper.bring(59);
        sleeper.come(9);
        sleeper.come(1);
        sleeper.pass(3);
        Check.is("lad 1 sleeps", sleeper.lad(1, 3), 3);
        victims("with empty carts", sleeper, -1, -1);
    }

    private static void thief() {
        HayThieves x = new HayThieves();
        Check.is("thief() without lads", x.thief(), -1);
        x.come(1);
        Check.is("thief() of one lad", x.thief(), 0);
        x.come(1);
        x.come(1);
        Check.is("thief() without thefts", x.thief(), 0);
        x.bring(60);
        x.pass(2);
        // Lad 0 forked; lad 1 stole the half; lad 2 found nothing.
        Check.is("after one theft: lad(1, 5)", x.lad(1, 5), 1);
        Check.is("after one theft: thief()", x.thief(), 1);
        // Lads 0 and 1 fork; lad 2 steals from lad 0.
        x.pass(1);
        Check.is("after two thefts: lad(2, 5)", x.lad(2, 5), 1);
        Check.is("of several the smallest number: thief()", x.thief(), 1);
        Check.is("lad(0, 6)", x.lad(0, 6), 1 + 1);
    }
}
