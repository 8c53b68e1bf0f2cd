import java.util.ArrayList;
import java.util.LinkedList;
import java.util.List;

/**
 * A second reading of the document, written as unlike the program as can be: heaps are objects
 * that know each other, totals are counted when something happens, and what would be is found
 * by doing everything once more in a new model.
 */
final class Model {
    static final int COME = 0, SET_WAY = 1, SET_FORK = 2, BRING = 3, SWAP = 4, WAKE = 5, PASS = 6;

    private static final class Heap {
        Hay load;
        int bales;
        int left;
        boolean done;
        Heap whole;
        Heap otherHalf;
    }

    private static final class Hay {
        Heap heap;
        boolean inYard = true;
        int heaps = 1;
        int thefts;
        int brought;
        int done = -1;
        int pitched;
    }

    private static final class Lad {
        int strength;
        int way;
        LinkedList<Heap> cart = new LinkedList<>();
        Heap hands;
        Heap join;
        boolean sleeps;
        int row;
        int idle;
        int stole;
        int lost;
    }

    private final List<int[]> history = new ArrayList<>();
    private final List<Lad> lads = new ArrayList<>();
    private final List<Hay> loads = new ArrayList<>();
    private int minute, fork = 10, thefts, forkings, joinings, idle, pitched, done;

    /** Does one of the calls that change something. */
    long act(int call, int a, int b) {
        long answer = tryToAct(call, a, b);
        history.add(new int[] {call, a, b});
        return answer;
    }

    private long tryToAct(int call, int a, int b) {
        switch (call) {
            case COME:
                refuseArgument(a < 1 || a > 9);
                refuseState(lads.size() == 6);
                Lad lad = new Lad();
                lad.strength = a;
                lads.add(lad);
                return lads.size() - 1;
            case SET_WAY: {
                refuseIndex(!isLad(a) || b < 0 || b > 2);
                int before = lads.get(a).way;
                lads.get(a).way = b;
                return before;
            }
            case SET_FORK: {
                refuseArgument(a < 4 || a > 60);
                int before = fork;
                fork = a;
                return before;
            }
            case BRING:
                return bring(a);
            case SWAP: {
                refuseIndex(!isLad(a) || !isLad(b));
                refuseArgument(a == b);
                LinkedList<Heap> cart = lads.get(a).cart;
                lads.get(a).cart = lads.get(b).cart;
                lads.get(b).cart = cart;
                return lads.get(a).cart.size();
            }
            case WAKE:
                refuseIndex(!isLad(a));
                refuseState(!lads.get(a).sleeps);
                lads.get(a).sleeps = false;
                return lads.stream().filter(l -> l.sleeps).count();
            default: {
                refuseArgument(a < 1 || a > 60);
                int before = done;
                for (int i = 0; i < a; i++) {
                    minute();
                }
                return done - before;
            }
        }
    }

    private long bring(int bales) {
        refuseArgument(bales < 1 || bales > 60);
        refuseState(loads.size() == 10);
        Hay hay = new Hay();
        hay.heap = heap(hay, bales);
        hay.brought = minute;
        loads.add(hay);
        lads.forEach(l -> l.sleeps = false);
        return loads.size() - 1;
    }

    private static Heap heap(Hay load, int bales) {
        Heap heap = new Heap();
        heap.load = load;
        heap.bales = bales;
        heap.left = bales;
        return heap;
    }

    private void minute() {
        for (int i = 0; i < lads.size(); i++) {
            turn(i);
        }
        minute++;
    }

    private void turn(int number) {
        Lad lad = lads.get(number);
        if (lad.sleeps) {
            return;
        }
        int row = lad.row;
        lad.row = 0;
        if (lad.join != null) {
            Heap whole = lad.join;
            lad.join = null;
            joinings++;
            beDone(lad, whole);
            return;
        }
        if (lad.hands == null && !lad.cart.isEmpty()) {
            lad.hands = lad.cart.removeFirst();
        }
        if (lad.hands != null) {
            work(lad);
            return;
        }
        for (Hay hay : loads) {
            if (hay.inYard) {
                hay.inYard = false;
                lad.hands = hay.heap;
                return;
            }
        }
        int from = victimOf(number);
        if (from >= 0) {
            lad.hands = lads.get(from).cart.removeLast();
            lad.stole++;
            lads.get(from).lost++;
            lad.hands.load.thefts++;
            thefts++;
            return;
        }
        lad.idle++;
        idle++;
        if (row == 2) {
            lad.sleeps = true;
        } else {
            lad.row = row + 1;
        }
    }

    private void work(Lad lad) {
        Heap heap = lad.hands;
        if (heap.left == heap.bales && heap.bales > fork && lad.cart.size() < 8) {
            Heap first = heap(heap.load, heap.bales / 2);
            Heap second = heap(heap.load, heap.bales - heap.bales / 2);
            first.whole = heap;
            second.whole = heap;
            first.otherHalf = second;
            second.otherHalf = first;
            lad.hands = first;
            lad.cart.addFirst(second);
            heap.load.heaps += 2;
            forkings++;
            lads.stream().filter(l -> l.sleeps).findFirst().ifPresent(l -> l.sleeps = false);
            return;
        }
        int bales = Math.min(lad.strength, heap.left);
        heap.left -= bales;
        heap.load.pitched += bales;
        pitched += bales;
        if (heap.left == 0) {
            beDone(lad, heap);
        }
    }

    private void beDone(Lad lad, Heap heap) {
        heap.done = true;
        lad.hands = null;
        if (heap.whole == null) {
            heap.load.done = minute;
            done++;
        } else if (heap.otherHalf.done) {
            lad.join = heap.whole;
        }
    }

    private int victimOf(int thief) {
        List<Integer> others = new ArrayList<>();
        for (int i = 1; i < lads.size(); i++) {
            int other = (thief + i) % lads.size();
            if (!lads.get(other).cart.isEmpty()) {
                others.add(other);
            }
        }
        int way = lads.get(thief).way;
        if (way != 0) {
            others.sort((a, b) -> worth(a, way) != worth(b, way) ? worth(b, way) - worth(a, way) : a - b);
        }
        return others.isEmpty() ? -1 : others.get(0);
    }

    private int worth(int lad, int way) {
        LinkedList<Heap> cart = lads.get(lad).cart;
        return way == 1 ? cart.size() : cart.getLast().bales;
    }

    long lad(int number, int what) {
        refuseIndex(!isLad(number) || what < 0 || what > 8);
        Lad lad = lads.get(number);
        Heap heap = lad.hands != null ? lad.hands : lad.join;
        int doing = lad.sleeps ? 3 : lad.join != null ? 2 : lad.hands != null ? 1 : 0;
        return new int[] {lad.strength, lad.way, lad.cart.size(), doing,
            lad.hands == null ? 0 : lad.hands.left, lad.stole, lad.lost, lad.idle,
            heap == null ? -1 : loads.indexOf(heap.load)}[what];
    }

    long cart(int number, int place) {
        refuseIndex(!isLad(number) || place < 0 || place >= lads.get(number).cart.size());
        return lads.get(number).cart.get(place).bales;
    }

    long load(int number, int what) {
        refuseIndex(number < 0 || number >= loads.size() || what < 0 || what > 6);
        Hay hay = loads.get(number);
        return new int[] {hay.heap.bales, hay.inYard ? 0 : hay.heap.done ? 2 : 1, hay.heaps,
            hay.thefts, hay.brought, hay.done, hay.pitched}[what];
    }

    long count(int what) {
        refuseIndex(what < 0 || what > 12);
        return new int[] {minute, lads.size(), loads.size(), done,
            (int) loads.stream().filter(h -> h.inYard).count(),
            lads.stream().mapToInt(l -> l.cart.size()).sum(),
            (int) lads.stream().filter(l -> l.sleeps).count(),
            thefts, forkings, joinings, idle, pitched, fork}[what];
    }

    long victim(int number) {
        refuseIndex(!isLad(number));
        return victimOf(number);
    }

    long thief() {
        int best = lads.isEmpty() ? -1 : 0;
        for (int i = 0; i < lads.size(); i++) {
            best = lads.get(i).stole > lads.get(best).stole ? i : best;
        }
        return best;
    }

    long until(int load) {
        refuseIndex(load < 0 || load >= loads.size());
        Model other = again();
        for (int minutes = 0; minutes <= 300; minutes++) {
            if (other.loads.get(load).heap.done) {
                return minutes;
            }
            other.minute();
        }
        return -1;
    }

    long foresee(int minutes, int what) {
        refuseArgument(minutes < 1 || minutes > 60);
        refuseIndex(what < 3 || what > 11);
        Model other = again();
        other.act(PASS, minutes, 0);
        return other.count(what);
    }

    long advise(int minutes) {
        refuseArgument(minutes < 1 || minutes > 40);
        int best = 0;
        int most = -1;
        for (int size : new int[] {60, 32, 16, 8, 4}) {
            Model other = again();
            other.act(SET_FORK, size, 0);
            other.act(PASS, minutes, 0);
            if (other.pitched >= most) {
                most = other.pitched;
                best = size;
            }
        }
        return best;
    }

    double mean() {
        return lads.isEmpty() ? 0 : idle / (double) lads.size();
    }

    long digest() {
        long d = 1531;
        for (int what = 0; what <= 12; what++) {
            d = d * 31 + count(what);
        }
        for (int lad = 0; lad < lads.size(); lad++) {
            for (int what = 0; what <= 8; what++) {
                d = d * 31 + lad(lad, what);
            }
            for (Heap heap : lads.get(lad).cart) {
                d = d * 31 + heap.bales;
            }
        }
        for (int load = 0; load < loads.size(); load++) {
            for (int what = 0; what <= 6; what++) {
                d = d * 31 + load(load, what);
            }
        }
        return d;
    }

    private Model again() {
        Model other = new Model();
        for (int[] call : history) {
            other.act(call[0], call[1], call[2]);
        }
        return other;
    }

    private boolean isLad(int number) {
        return number >= 0 && number < lads.size();
    }

    private static void refuseArgument(boolean wrong) {
        if (wrong) {
            throw new IllegalArgumentException();
        }
    }

    private static void refuseState(boolean wrong) {
        if (wrong) {
            throw new IllegalStateException();
        }
    }

    private static void refuseIndex(boolean wrong) {
        if (wrong) {
            throw new IndexOutOfBoundsException();
        }
    }
}
