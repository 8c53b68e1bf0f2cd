/** Yards to begin a test with, and the values round the ends of a range. */
final class Yards {
    private Yards() {
    }

    interface Maker {
        HayThieves make();
    }

    /** The numbers from two before the least to two behind the most, and those farthest away. */
    static int[] around(int least, int most) {
        int[] values = new int[most - least + 7];
        for (int i = 0; i < values.length - 2; i++) {
            values[i] = least - 2 + i;
        }
        values[values.length - 2] = Integer.MIN_VALUE;
        values[values.length - 1] = Integer.MAX_VALUE;
        return values;
    }

    static boolean within(int value, int least, int most) {
        return least <= value && value <= most;
    }

    /** As many lads, of strength 1, with nothing to do. */
    static HayThieves lads(int lads) {
        HayThieves x = new HayThieves();
        for (int i = 0; i < lads; i++) {
            x.come(1);
        }
        return x;
    }

    /** As many lads, who have been idle for three minutes. */
    static HayThieves asleep(int lads) {
        HayThieves x = lads(lads);
        x.pass(3);
        return x;
    }

    /** As many loads, of one bale more each, in the yard. */
    static HayThieves loads(int loads) {
        HayThieves x = new HayThieves();
        for (int i = 0; i < loads; i++) {
            x.bring(i + 1);
        }
        return x;
    }

    /** One lad, and loads in the yard. */
    static HayThieves alone(int fork, int strength, int... loads) {
        HayThieves x = new HayThieves();
        x.setFork(fork);
        x.come(strength);
        for (int bales : loads) {
            x.bring(bales);
        }
        return x;
    }

    private static final int[] FORKED = {4, 8, 15, 30, 4, 8, 15, 30};

    /** The bales in the cart of heaps(heaps), from the near end on. */
    static int[] bales(int heaps) {
        int[] bales = new int[heaps];
        for (int i = 0; i < heaps; i++) {
            bales[i] = FORKED[8 - heaps + i];
        }
        return bales;
    }

    /**
     * Lad 0 has from 0 to 8 heaps in the cart, of loads of 60 bales at fork size 4. More than four of
     * them are of lad 1: lad 0 takes a third load, forks it into the cart of lad 1, and changes back.
     */
    static HayThieves heaps(int heaps) {
        HayThieves x = alone(4, 9, 60, 60, 60);
        if (heaps > 0) {
            x.pass(1 + Math.min(heaps, 4));
        }
        if (heaps > 4) {
            x.come(9);
            x.pass(1);
            x.swap(0, 1);
            x.pass(heaps - 4);
            x.swap(0, 1);
        }
        return x;
    }

    /** 6 lads, 10 loads, and a cart of 8 heaps. */
    static HayThieves full() {
        HayThieves x = heaps(8);
        for (int lads = 2; lads < 6; lads++) {
            x.come(lads);
        }
        for (int loads = 3; loads < 10; loads++) {
            x.bring(60 - loads);
        }
        return x;
    }

    /**
     * Behind five minutes lad 0 was woken by lad 3, who forked 15 bales, and lad 4 still sleeps; the
     * 8 bales in cart 3 are all that is in a cart.
     * 0: lad 0 takes one bale. 1: lad 0 is done, lad 1 takes 57. 2: lad 1 forks (28, 29), lad 2 steals
     * the 29, lads 3 and 4 fall asleep. 3: lad 2 forks (14, 15), which wakes lad 3, who steals the 15.
     * 4: lad 0 falls asleep, lad 3 forks (7, 8), which wakes lad 0, whose turn is over.
     */
    static HayThieves sleeperWithHayAround() {
        HayThieves x = lads(5);
        x.bring(1);
        x.pass(1);
        x.bring(57);
        x.pass(2);
        x.setFork(28);
        x.pass(1);
        x.setFork(14);
        x.pass(1);
        return x;
    }
}
