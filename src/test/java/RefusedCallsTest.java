import java.util.ArrayList;
import java.util.List;

/**
 * Each call that can be refused, in yards of many kinds: it throws what the document names first,
 * and the yard tells and does the same as one in which it was never made.
 */
public final class RefusedCallsTest {
    private interface Ask {
        long of(HayThieves x);
    }

    private static final class Refused {
        final String what;
        final Class<? extends RuntimeException> kind;
        final Ask ask;

        Refused(String what, Class<? extends RuntimeException> kind, Ask ask) {
            this.what = what;
            this.kind = kind;
            this.ask = ask;
        }
    }

    public static void main(String[] args) {
        inYard("a new yard", HayThieves::new);
        inYard("six lads", () -> Yards.lads(6));
        inYard("ten loads", () -> Yards.loads(10));
        inYard("one who sleeps", () -> Yards.asleep(1));
        inYard("six who sleep", () -> Yards.asleep(6));
        inYard("idle for two minutes", RefusedCallsTest::idleForTwo);
        inYard("a bale was pitched", RefusedCallsTest::pitched);
        inYard("has to join", RefusedCallsTest::hasToJoin);
        inYard("all is done", RefusedCallsTest::allIsDone);
        inYard("some sleep", Yards::sleeperWithHayAround);
        inYard("all is full", Yards::full);
        Check.end();
    }

    private static HayThieves idleForTwo() {
        HayThieves x = Yards.lads(3);
        x.pass(2);
        return x;
    }

    private static HayThieves pitched() {
        HayThieves x = Yards.alone(60, 1, 60, 2, 3);
        x.pass(2);
        x.setFork(4);
        return x;
    }

    private static HayThieves hasToJoin() {
        HayThieves x = Yards.alone(10, 7, 14);
        x.come(1);
        x.setWay(1, 2);
        x.swap(0, 1);
        x.pass(9);
        return x;
    }

    private static HayThieves allIsDone() {
        HayThieves x = Yards.alone(60, 9, 1, 2, 3, 4, 5, 6, 7, 8, 9, 10);
        x.pass(30);
        return x;
    }

    private static void inYard(String yard, Yards.Maker maker) {
        HayThieves untouched = maker.make();
        String picture = Picture.inShort(untouched);
        untouched.pass(3);
        String later = Picture.of(untouched);
        for (Refused call : refusedIn(maker.make())) {
            HayThieves x = maker.make();
            String what = yard + ": " + call.what;
            Check.same(what, Check.outcome(() -> call.ask.of(x)), "throws." + call.kind.getSimpleName());
            Check.same(what + " leaves", Picture.inShort(x), picture);
            x.pass(3);
            Check.same(what + ", three minutes later", Picture.of(x), later);
        }
    }

    private static List<Refused> refusedIn(HayThieves x) {
        List<Refused> calls = new ArrayList<>();
        addHires(calls, x.count(1) == 6);
        addLoads(calls, x.count(2) == 10);
        addOfLads(calls, x);
        addSwaps(calls, x.count(1));
        addOfLoads(calls, x.count(2));
        addMinutes(calls);
        return calls;
    }

    private static int[] outside(int least, int most) {
        return new int[] {Integer.MIN_VALUE, least - 1, most + 1, Integer.MAX_VALUE};
    }

    private static void addHires(List<Refused> calls, boolean full) {
        for (int strength : outside(1, 9)) {
            calls.add(new Refused("come(" + strength + ")", Check.ARGUMENT, x -> x.come(strength)));
        }
        if (full) {
            calls.add(new Refused("come(1)", Check.STATE, x -> x.come(1)));
            calls.add(new Refused("come(9)", Check.STATE, x -> x.come(9)));
        }
        for (int size : outside(4, 60)) {
            calls.add(new Refused("setFork(" + size + ")", Check.ARGUMENT, x -> x.setFork(size)));
        }
    }

    private static void addLoads(List<Refused> calls, boolean full) {
        for (int bales : outside(1, 60)) {
            calls.add(new Refused("bring(" + bales + ")", Check.ARGUMENT, x -> x.bring(bales)));
        }
        if (full) {
            calls.add(new Refused("bring(1)", Check.STATE, x -> x.bring(1)));
            calls.add(new Refused("bring(60)", Check.STATE, x -> x.bring(60)));
        }
    }

    private static void addOfLads(List<Refused> calls, HayThieves yard) {
        int lads = yard.count(1);
        for (int lad : outside(0, lads - 1)) {
            calls.add(new Refused("setWay(" + lad + ", 1)", Check.INDEX, x -> x.setWay(lad, 1)));
            calls.add(new Refused("setWay(" + lad + ", 3)", Check.INDEX, x -> x.setWay(lad, 3)));
            calls.add(new Refused("wake(" + lad + ")", Check.INDEX, x -> x.wake(lad)));
            calls.add(new Refused("lad(" + lad + ", 0)", Check.INDEX, x -> x.lad(lad, 0)));
            calls.add(new Refused("cart(" + lad + ", 0)", Check.INDEX, x -> x.cart(lad, 0)));
            calls.add(new Refused("victim(" + lad + ")", Check.INDEX, x -> x.victim(lad)));
        }
        for (int lad = 0; lad < lads; lad++) {
            addOfLad(calls, yard, lad);
        }
    }

    private static void addOfLad(List<Refused> calls, HayThieves yard, int lad) {
        for (int way : outside(0, 2)) {
            calls.add(new Refused("setWay(" + lad + ", " + way + ")", Check.INDEX, x -> x.setWay(lad, way)));
        }
        for (int what : outside(0, 8)) {
            calls.add(new Refused("lad(" + lad + ", " + what + ")", Check.INDEX, x -> x.lad(lad, what)));
        }
        for (int place : outside(0, yard.lad(lad, 2) - 1)) {
            calls.add(new Refused("cart(" + lad + ", " + place + ")", Check.INDEX, x -> x.cart(lad, place)));
        }
        if (yard.lad(lad, 3) != 3) {
            calls.add(new Refused("wake(" + lad + ")", Check.STATE, x -> x.wake(lad)));
        }
    }

    private static void addSwaps(List<Refused> calls, int lads) {
        for (int lad : outside(0, lads - 1)) {
            calls.add(new Refused("swap(0, " + lad + ")", Check.INDEX, x -> x.swap(0, lad)));
            calls.add(new Refused("swap(" + lad + ", 0)", Check.INDEX, x -> x.swap(lad, 0)));
            calls.add(new Refused("swap(" + lad + ", the same)", Check.INDEX, x -> x.swap(lad, lad)));
        }
        for (int lad = 0; lad < lads; lad++) {
            int same = lad;
            calls.add(new Refused("swap(" + lad + ", the same)", Check.ARGUMENT, x -> x.swap(same, same)));
        }
    }

    private static void addOfLoads(List<Refused> calls, int loads) {
        for (int load : outside(0, loads - 1)) {
            calls.add(new Refused("load(" + load + ", 0)", Check.INDEX, x -> x.load(load, 0)));
            calls.add(new Refused("until(" + load + ")", Check.INDEX, x -> x.until(load)));
        }
        for (int what : outside(0, 6)) {
            for (int i = 0; i < loads; i++) {
                int load = i;
                calls.add(new Refused("load(" + load + ", " + what + ")", Check.INDEX, x -> x.load(load, what)));
            }
        }
        for (int what : outside(0, 12)) {
            calls.add(new Refused("count(" + what + ")", Check.INDEX, x -> x.count(what)));
        }
    }

    private static void addMinutes(List<Refused> calls) {
        for (int minutes : outside(1, 60)) {
            calls.add(new Refused("pass(" + minutes + ")", Check.ARGUMENT, x -> x.pass(minutes)));
            calls.add(new Refused("foresee(" + minutes + ", 3)", Check.ARGUMENT, x -> x.foresee(minutes, 3)));
            for (int what : outside(3, 11)) {
                String call = "foresee(" + minutes + ", " + what + ")";
                calls.add(new Refused(call, Check.ARGUMENT, x -> x.foresee(minutes, what)));
            }
        }
        for (int what : outside(3, 11)) {
            calls.add(new Refused("foresee(1, " + what + ")", Check.INDEX, x -> x.foresee(1, what)));
            calls.add(new Refused("foresee(60, " + what + ")", Check.INDEX, x -> x.foresee(60, what)));
        }
        for (int minutes : outside(1, 40)) {
            calls.add(new Refused("advise(" + minutes + ")", Check.ARGUMENT, x -> x.advise(minutes)));
        }
    }
}
