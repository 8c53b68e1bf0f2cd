/** Lads who pitch hay, and steal it from each other's carts. */
public final class HayThieves {
    private static final int NONE = -1;

    private static final int MOST_LADS = 6;
    private static final int MOST_STRENGTH = 9;
    private static final int WAYS = 3;
    private static final int MOST_IN_CART = 8;
    private static final int IDLE_TILL_SLEEP = 3;

    private static final int MOST_LOADS = 10;
    private static final int MOST_BALES = 60;

    private static final int SMALLEST_FORK = 4;
    private static final int GREATEST_FORK = 60;
    private static final int FIRST_FORK = 10;

    private static final int MOST_MINUTES = 60;
    private static final int MOST_MINUTES_UNTIL = 300;
    private static final int MOST_MINUTES_ADVISED = 40;
    private static final int[] ADVISED_FORKS = {4, 8, 16, 32, 60};

    // The heaps of a load have places: the load itself 1, the halves of the heap at
    // the place n 2n and 2n + 1. More than 4 bales are needed for a fork, so 60
    // bales are forked at most four times over, and every place is below 32.
    // A heap's number is its place, and 32 more for each load before its own.
    private static final int WHOLE_LOAD = 1;
    private static final int HEAPS_OF_LOAD = 32;
    private static final int MOST_HEAPS = MOST_LOADS * HEAPS_OF_LOAD;

    private static final int IN_YARD = 0;
    private static final int IN_WORK = 1;
    private static final int DONE = 2;

    private static final int LAD_ANSWERS = 9;
    private static final int LAD_HEAPS = 2;
    private static final int LAD_THEFTS = 5;
    private static final int LAD_IDLE = 7;

    private static final int LOAD_ANSWERS = 7;
    private static final int LOAD_PITCHED = 6;

    private static final int COUNTS = 13;
    private static final int COUNT_DONE = 3;
    private static final int COUNT_IDLE = 10;
    private static final int COUNT_PITCHED = 11;

    private static final long DIGEST_START = 1531;

    private final Yard now;
    // What would be is tried out here; kept, so that no call has to make a yard.
    private final Yard trial;

    public HayThieves() {
        now = new Yard();
        trial = new Yard();
    }

    // ---- lads and loads

    public int come(int strength) throws IllegalArgumentException, IllegalStateException {
        if (strength < 1 || strength > MOST_STRENGTH) {
            throw new IllegalArgumentException("strength is not 1 to 9");
        }
        if (now.ladCount >= MOST_LADS) {
            throw new IllegalStateException("there are 6 lads");
        }
        return now.addLad(strength);
    }

    public int setWay(int lad, int way) throws IndexOutOfBoundsException {
        needLad(lad);
        if (way < 0 || way >= WAYS) {
            throw new IndexOutOfBoundsException("way is not 0 to 2");
        }
        int before = now.lads[lad].way;
        now.lads[lad].way = way;
        return before;
    }

    public int setFork(int size) throws IllegalArgumentException {
        if (size < SMALLEST_FORK || size > GREATEST_FORK) {
            throw new IllegalArgumentException("size is not 4 to 60");
        }
        int before = now.forkSize;
        now.forkSize = size;
        return before;
    }

    public int bring(int bales) throws IllegalArgumentException, IllegalStateException {
        if (bales < 1 || bales > MOST_BALES) {
            throw new IllegalArgumentException("bales is not 1 to 60");
        }
        if (now.loadCount >= MOST_LOADS) {
            throw new IllegalStateException("there were 10 loads");
        }
        return now.addLoad(bales);
    }

    public int swap(int a, int b) throws IndexOutOfBoundsException, IllegalArgumentException {
        needLad(a);
        needLad(b);
        if (a == b) {
            throw new IllegalArgumentException("both lads are the same");
        }
        Cart cart = now.lads[a].cart;
        now.lads[a].cart = now.lads[b].cart;
        now.lads[b].cart = cart;
        return now.lads[a].cart.size;
    }

    public int wake(int lad) throws IndexOutOfBoundsException, IllegalStateException {
        needLad(lad);
        if (!now.lads[lad].asleep) {
            throw new IllegalStateException("this lad does not sleep");
        }
        now.lads[lad].asleep = false;
        return now.sleepers();
    }

    // ---- what is there

    public int lad(int lad, int what) throws IndexOutOfBoundsException {
        needLad(lad);
        if (what < 0 || what >= LAD_ANSWERS) {
            throw new IndexOutOfBoundsException("what is not 0 to 8");
        }
        return now.lads[lad].tell(what);
    }

    public int cart(int lad, int place) throws IndexOutOfBoundsException {
        needLad(lad);
        if (place < 0 || place >= now.lads[lad].cart.size) {
            throw new IndexOutOfBoundsException("there is no such place");
        }
        return now.balesOf(now.lads[lad].cart.heapAt(place));
    }

    public int load(int load, int what) throws IndexOutOfBoundsException {
        needLoad(load);
        if (what < 0 || what >= LOAD_ANSWERS) {
            throw new IndexOutOfBoundsException("what is not 0 to 6");
        }
        return now.loads[load].tell(what);
    }

    public int count(int what) throws IndexOutOfBoundsException {
        if (what < 0 || what >= COUNTS) {
            throw new IndexOutOfBoundsException("what is not 0 to 12");
        }
        return now.tell(what);
    }

    public int victim(int lad) throws IndexOutOfBoundsException {
        needLad(lad);
        return now.victimOf(now.lads[lad]);
    }

    public int thief() {
        int best = NONE;
        int most = -1;
        for (int i = 0; i < now.ladCount; i++) {
            if (now.lads[i].thefts > most) {
                most = now.lads[i].thefts;
                best = i;
            }
        }
        return best;
    }

    // ---- minutes and what would be

    public int pass(int minutes) throws IllegalArgumentException {
        needMinutes(minutes, MOST_MINUTES);
        int before = now.tell(COUNT_DONE);
        now.runMinutes(minutes);
        return now.tell(COUNT_DONE) - before;
    }

    public int until(int load) throws IndexOutOfBoundsException {
        needLoad(load);
        trial.copyFrom(now);
        Load tried = trial.loads[load];
        int minutes = 0;
        while (tried.state != DONE && minutes < MOST_MINUTES_UNTIL) {
            trial.runMinutes(1);
            minutes++;
        }
        return tried.state == DONE ? minutes : NONE;
    }

    public int foresee(int minutes, int what) throws IllegalArgumentException, IndexOutOfBoundsException {
        needMinutes(minutes, MOST_MINUTES);
        if (what < COUNT_DONE || what > COUNT_PITCHED) {
            throw new IndexOutOfBoundsException("what is not 3 to 11");
        }
        trial.copyFrom(now);
        trial.runMinutes(minutes);
        return trial.tell(what);
    }

    public int advise(int minutes) throws IllegalArgumentException {
        needMinutes(minutes, MOST_MINUTES_ADVISED);
        int best = SMALLEST_FORK;
        int most = -1;
        for (int size : ADVISED_FORKS) {
            trial.copyFrom(now);
            trial.forkSize = size;
            trial.runMinutes(minutes);
            int pitched = trial.tell(COUNT_PITCHED);
            if (pitched > most) {
                most = pitched;
                best = size;
            }
        }
        return best;
    }

    public double mean() {
        if (now.ladCount == 0) {
            return 0.0;
        }
        return (double) now.tell(COUNT_IDLE) / now.ladCount;
    }

    public long digest() {
        long d = DIGEST_START;
        for (int what = 0; what < COUNTS; what++) {
            d = mixed(d, now.tell(what));
        }
        for (int i = 0; i < now.ladCount; i++) {
            d = mixedWithLad(d, now.lads[i]);
        }
        for (int i = 0; i < now.loadCount; i++) {
            for (int what = 0; what < LOAD_ANSWERS; what++) {
                d = mixed(d, now.loads[i].tell(what));
            }
        }
        return d;
    }

    private long mixedWithLad(long start, Lad lad) {
        long d = start;
        for (int what = 0; what < LAD_ANSWERS; what++) {
            d = mixed(d, lad.tell(what));
        }
        for (int place = 0; place < lad.cart.size; place++) {
            d = mixed(d, now.balesOf(lad.cart.heapAt(place)));
        }
        return d;
    }

    private static long mixed(long d, int x) {
        return d * 31 + x;
    }

    private void needLad(int lad) {
        if (lad < 0 || lad >= now.ladCount) {
            throw new IndexOutOfBoundsException("there is no such lad");
        }
    }

    private void needLoad(int load) {
        if (load < 0 || load >= now.loadCount) {
            throw new IndexOutOfBoundsException("there is no such load");
        }
    }

    private static void needMinutes(int minutes, int most) {
        if (minutes < 1 || minutes > most) {
            throw new IllegalArgumentException("minutes is below 1 or too many");
        }
    }

    /** A row of heaps, by their numbers. */
    private static final class Cart {
        // From the far end on, so that the busy near end needs no shifting.
        private final int[] heaps = new int[MOST_IN_CART];
        private int size = 0;

        int heapAt(int place) {
            return place < 0 || place >= size ? NONE : heaps[size - 1 - place];
        }

        int farHeap() {
            return size > 0 ? heaps[0] : NONE;
        }

        boolean hasRoom() {
            return size < heaps.length;
        }

        void putNear(int heap) {
            if (hasRoom()) {
                heaps[size] = heap;
                size++;
            }
        }

        int takeNear() {
            int heap = heapAt(0);
            if (size > 0) {
                size--;
            }
            return heap;
        }

        int takeFar() {
            int heap = farHeap();
            if (size > 0) {
                size--;
                System.arraycopy(heaps, 1, heaps, 0, size);
            }
            return heap;
        }

        void copyFrom(Cart other) {
            System.arraycopy(other.heaps, 0, heaps, 0, heaps.length);
            size = other.size;
        }
    }

    private static final class Lad {
        private final int number;
        private int strength = 0;
        private int way = 0;
        private Cart cart = new Cart();
        private int hands = NONE;
        private int balesLeft = 0;
        private int toJoin = NONE;
        private boolean asleep = false;
        private int idleInRow = 0;
        private int idleMinutes = 0;
        private int thefts = 0;
        private int theftsFrom = 0;

        Lad(int number) {
            this.number = number;
        }

        int tell(int what) {
            switch (what) {
                case 0: return strength;
                case 1: return way;
                case LAD_HEAPS: return cart.size;
                case 3: return doing();
                case 4: return balesLeft;
                case LAD_THEFTS: return thefts;
                case 6: return theftsFrom;
                case LAD_IDLE: return idleMinutes;
                default: return loadAtWork();
            }
        }

        int doing() {
            if (asleep) {
                return 3;
            }
            if (toJoin != NONE) {
                return 2;
            }
            return hands != NONE ? 1 : 0;
        }

        int loadAtWork() {
            int heap = hands != NONE ? hands : toJoin;
            return heap == NONE ? NONE : heap / HEAPS_OF_LOAD;
        }

        void take(int heap, int bales) {
            hands = heap;
            balesLeft = bales;
        }

        void beIdle() {
            idleMinutes++;
            idleInRow++;
            if (idleInRow >= IDLE_TILL_SLEEP) {
                asleep = true;
                idleInRow = 0;
            }
        }

        void copyFrom(Lad other) {
            strength = other.strength;
            way = other.way;
            cart.copyFrom(other.cart);
            hands = other.hands;
            balesLeft = other.balesLeft;
            toJoin = other.toJoin;
            asleep = other.asleep;
            idleInRow = other.idleInRow;
            idleMinutes = other.idleMinutes;
            thefts = other.thefts;
            theftsFrom = other.theftsFrom;
        }
    }

    private static final class Load {
        private int bales = 0;
        private int state = IN_YARD;
        private int broughtAt = 0;
        private int doneAt = NONE;
        private int heaps = 1;
        private int thefts = 0;
        private int pitched = 0;

        int tell(int what) {
            switch (what) {
                case 0: return bales;
                case 1: return state;
                case 2: return heaps;
                case 3: return thefts;
                case 4: return broughtAt;
                case 5: return doneAt;
                default: return pitched;
            }
        }

        void copyFrom(Load other) {
            bales = other.bales;
            state = other.state;
            broughtAt = other.broughtAt;
            doneAt = other.doneAt;
            heaps = other.heaps;
            thefts = other.thefts;
            pitched = other.pitched;
        }
    }

    /** All that is there, and how a minute goes. */
    private static final class Yard {
        private final Lad[] lads = new Lad[MOST_LADS];
        private final Load[] loads = new Load[MOST_LOADS];
        private final int[] heapBales = new int[MOST_HEAPS];
        private final boolean[] heapDone = new boolean[MOST_HEAPS];
        private int ladCount = 0;
        private int loadCount = 0;
        private int minute = 0;
        private int forkSize = FIRST_FORK;
        private int forkings = 0;
        private int joinings = 0;

        Yard() {
            for (int i = 0; i < MOST_LADS; i++) {
                lads[i] = new Lad(i);
            }
            for (int i = 0; i < MOST_LOADS; i++) {
                loads[i] = new Load();
            }
        }

        int addLad(int strength) {
            if (ladCount >= MOST_LADS) {
                return NONE;
            }
            lads[ladCount].strength = strength;
            ladCount++;
            return ladCount - 1;
        }

        int addLoad(int bales) {
            if (loadCount >= MOST_LOADS) {
                return NONE;
            }
            loads[loadCount].bales = bales;
            loads[loadCount].broughtAt = minute;
            setBales(loadCount * HEAPS_OF_LOAD + WHOLE_LOAD, bales);
            loadCount++;
            wakeAll();
            return loadCount - 1;
        }

        void wakeAll() {
            for (int i = 0; i < ladCount; i++) {
                lads[i].asleep = false;
            }
        }

        int tell(int what) {
            switch (what) {
                case 0: return minute;
                case 1: return ladCount;
                case 2: return loadCount;
                case COUNT_DONE: return loadsThatAre(DONE);
                case 4: return loadsThatAre(IN_YARD);
                case 5: return sumOverLads(LAD_HEAPS);
                case 6: return sleepers();
                case 7: return sumOverLads(LAD_THEFTS);
                case 8: return forkings;
                case 9: return joinings;
                case COUNT_IDLE: return sumOverLads(LAD_IDLE);
                case COUNT_PITCHED: return sumOverLoads(LOAD_PITCHED);
                default: return forkSize;
            }
        }

        int loadsThatAre(int state) {
            int found = 0;
            for (int i = 0; i < loadCount; i++) {
                if (loads[i].state == state) {
                    found++;
                }
            }
            return found;
        }

        int sumOverLads(int what) {
            int sum = 0;
            for (int i = 0; i < ladCount; i++) {
                sum += lads[i].tell(what);
            }
            return sum;
        }

        int sumOverLoads(int what) {
            int sum = 0;
            for (int i = 0; i < loadCount; i++) {
                sum += loads[i].tell(what);
            }
            return sum;
        }

        int sleepers() {
            int found = 0;
            for (int i = 0; i < ladCount; i++) {
                if (lads[i].asleep) {
                    found++;
                }
            }
            return found;
        }

        int balesOf(int heap) {
            return heap >= 0 && heap < MOST_HEAPS ? heapBales[heap] : 0;
        }

        void setBales(int heap, int bales) {
            if (heap >= 0 && heap < MOST_HEAPS) {
                heapBales[heap] = bales;
            }
        }

        Load loadOf(int heap) {
            return loads[heap >= 0 && heap < MOST_HEAPS ? heap / HEAPS_OF_LOAD : 0];
        }

        int victimOf(Lad thief) {
            switch (thief.way) {
                case 1: return fullestCart(thief);
                case 2: return greatestFarHeap(thief);
                default: return nextWithHay(thief);
            }
        }

        boolean canBeRobbed(Lad lad, Lad thief) {
            return lad != thief && lad.cart.size > 0;
        }

        int nextWithHay(Lad thief) {
            for (int step = 1; step < ladCount; step++) {
                int other = thief.number + step;
                if (other >= ladCount) {
                    other -= ladCount;
                }
                if (canBeRobbed(lads[other], thief)) {
                    return other;
                }
            }
            return NONE;
        }

        int fullestCart(Lad thief) {
            int best = NONE;
            int most = 0;
            for (int i = 0; i < ladCount; i++) {
                if (canBeRobbed(lads[i], thief) && lads[i].cart.size > most) {
                    most = lads[i].cart.size;
                    best = i;
                }
            }
            return best;
        }

        int greatestFarHeap(Lad thief) {
            int best = NONE;
            int most = 0;
            for (int i = 0; i < ladCount; i++) {
                int bales = balesOf(lads[i].cart.farHeap());
                if (canBeRobbed(lads[i], thief) && bales > most) {
                    most = bales;
                    best = i;
                }
            }
            return best;
        }

        void runMinutes(int minutes) {
            for (int m = 0; m < minutes; m++) {
                for (int i = 0; i < ladCount; i++) {
                    if (!lads[i].asleep) {
                        takeTurn(lads[i]);
                    }
                }
                minute++;
            }
        }

        void takeTurn(Lad lad) {
            if (lad.toJoin == NONE && lad.hands == NONE) {
                takeFromOwnCart(lad);
            }
            boolean busy = true;
            if (lad.toJoin != NONE) {
                joinHalves(lad);
            } else if (lad.hands != NONE) {
                workOnHeap(lad);
            } else {
                busy = takeFromYard(lad) || steal(lad);
            }
            if (busy) {
                lad.idleInRow = 0;
            } else {
                lad.beIdle();
            }
        }

        void takeFromOwnCart(Lad lad) {
            int heap = lad.cart.takeNear();
            if (heap != NONE) {
                lad.take(heap, balesOf(heap));
            }
        }

        void joinHalves(Lad lad) {
            int heap = lad.toJoin;
            lad.toJoin = NONE;
            joinings++;
            finishHeap(lad, heap);
        }

        void workOnHeap(Lad lad) {
            boolean whole = lad.balesLeft == balesOf(lad.hands);
            if (whole && lad.balesLeft > forkSize && lad.cart.hasRoom()) {
                forkHeap(lad);
            } else {
                pitch(lad);
            }
        }

        void forkHeap(Lad lad) {
            int heap = lad.hands;
            int bales = lad.balesLeft;
            int firstHalf = heap + heap % HEAPS_OF_LOAD;
            setBales(firstHalf, bales / 2);
            setBales(firstHalf + 1, bales - bales / 2);
            loadOf(heap).heaps += 2;
            forkings++;
            lad.take(firstHalf, bales / 2);
            lad.cart.putNear(firstHalf + 1);
            wakeFirstSleeper();
        }

        void wakeFirstSleeper() {
            for (int i = 0; i < ladCount; i++) {
                if (lads[i].asleep) {
                    lads[i].asleep = false;
                    return;
                }
            }
        }

        void pitch(Lad lad) {
            int bales = lad.balesLeft < lad.strength ? lad.balesLeft : lad.strength;
            lad.balesLeft -= bales;
            loadOf(lad.hands).pitched += bales;
            if (lad.balesLeft == 0) {
                finishHeap(lad, lad.hands);
            }
        }

        void finishHeap(Lad lad, int heap) {
            lad.hands = NONE;
            if (heap < 0 || heap >= MOST_HEAPS) {
                return;
            }
            heapDone[heap] = true;
            int place = heap % HEAPS_OF_LOAD;
            if (place == WHOLE_LOAD) {
                loadOf(heap).state = DONE;
                loadOf(heap).doneAt = minute;
            } else if (heapDone[otherHalf(heap)]) {
                lad.toJoin = heap - place + place / 2;
            }
        }

        // The numbers of two halves differ in their last bit alone.
        int otherHalf(int heap) {
            return heap ^ 1;
        }

        boolean takeFromYard(Lad lad) {
            for (int i = 0; i < loadCount; i++) {
                if (loads[i].state == IN_YARD) {
                    loads[i].state = IN_WORK;
                    lad.take(i * HEAPS_OF_LOAD + WHOLE_LOAD, loads[i].bales);
                    return true;
                }
            }
            return false;
        }

        boolean steal(Lad lad) {
            int victim = victimOf(lad);
            if (victim < 0 || victim >= ladCount) {
                return false;
            }
            int heap = lads[victim].cart.takeFar();
            lad.take(heap, balesOf(heap));
            lad.thefts++;
            lads[victim].theftsFrom++;
            loadOf(heap).thefts++;
            return true;
        }

        void copyFrom(Yard other) {
            for (int i = 0; i < other.ladCount; i++) {
                lads[i].copyFrom(other.lads[i]);
            }
            for (int i = 0; i < other.loadCount; i++) {
                loads[i].copyFrom(other.loads[i]);
            }
            System.arraycopy(other.heapBales, 0, heapBales, 0, MOST_HEAPS);
            System.arraycopy(other.heapDone, 0, heapDone, 0, MOST_HEAPS);
            ladCount = other.ladCount;
            loadCount = other.loadCount;
            minute = other.minute;
            forkSize = other.forkSize;
            forkings = other.forkings;
            joinings = other.joinings;
        }
    }
}
