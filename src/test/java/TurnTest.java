/** The terms: how a turn goes, and its edges. */
public final class TurnTest {
    public static void main(String[] args) {
        yardBeforeTheft();
        smallestLoadFirst();
        forkWakesOneOfSmallerNumber();
        forkWakesTheFirstOfSeveral();
        fullCart();
        fullCartWithoutTheHeapTaken();
        joinedUpToTheLoad();
        lastOfTwoJoins();
        whatEndsTheRowOfIdleMinutes();
        Check.end();
    }

    private static void yardBeforeTheft() {
        HayThieves x = new HayThieves();
        x.come(1);
        x.bring(60);
        x.pass(2);
        x.bring(5);
        x.come(1);
        x.pass(1);
        Check.is("the load, not the heap in cart 0: lad(1, 8)", x.lad(1, 8), 1);
        Check.is("lad(1, 4)", x.lad(1, 4), 5);
        Check.is("count(7)", x.count(7), 0);
        Check.is("count(4)", x.count(4), 0);
        Check.is("load(1, 1)", x.load(1, 1), 1);
    }

    private static void smallestLoadFirst() {
        HayThieves x = new HayThieves();
        x.bring(3);
        x.bring(60);
        x.bring(2);
        x.come(9);
        x.come(9);
        x.pass(1);
        Check.is("lad(0, 8)", x.lad(0, 8), 0);
        Check.is("lad(1, 8)", x.lad(1, 8), 1);
        x.pass(1);
        Check.is("pitched: load(0, 1)", x.load(0, 1), 2);
        Check.is("all that are left: count(11)", x.count(11), 3);
        Check.is("not in the same turn: lad(0, 8)", x.lad(0, 8), -1);
        x.pass(1);
        Check.is("lad(0, 8)", x.lad(0, 8), 2);
    }

    private static void forkWakesOneOfSmallerNumber() {
        HayThieves x = new HayThieves();
        for (int i = 0; i < 5; i++) {
            x.come(1);
        }
        x.bring(1);
        x.pass(1);
        x.bring(60);
        // 1: lad 0 is done, lad 1 takes 60. 2: lad 1 forks, lad 2 steals, lads 3 and 4 fall asleep.
        // 3: lads 1 and 2 fork, lads 3 and 4 wake and steal. Lad 0 was idle in 2 and 3.
        x.pass(3);
        Check.is("all have 15 bales: lad(4, 4)", x.lad(4, 4), 15);
        Check.is("all carts are empty: count(5)", x.count(5), 0);
        Check.is("two idle minutes: lad(0, 7)", x.lad(0, 7), 2);
        x.pass(1);
        Check.is("lad 0 fell asleep, and was woken: lad(0, 3)", x.lad(0, 3), 0);
        Check.is("a third idle minute: lad(0, 7)", x.lad(0, 7), 3);
        Check.is("no turn any more in this minute: lad(0, 5)", x.lad(0, 5), 0);
        Check.is("all others forked: count(5)", x.count(5), 4);
        x.pass(1);
        Check.is("the next turn: lad(0, 5)", x.lad(0, 5), 1);
        Check.is("lad(0, 4)", x.lad(0, 4), 8);
        Check.is("lad(1, 6)", x.lad(1, 6), 3);
    }

    private static void forkWakesTheFirstOfSeveral() {
        HayThieves x = new HayThieves();
        x.come(1);
        x.come(1);
        x.come(1);
        x.come(1);
        x.pass(2);
        x.bring(40);
        x.pass(1);
        // Lad 0 took the load; the others were idle for the third minute.
        Check.is("three sleep: count(6)", x.count(6), 3);
        x.pass(1);
        Check.is("a fork wakes one: count(6)", x.count(6), 2);
        Check.is("the first one: lad(1, 3)", x.lad(1, 3), 1);
        Check.is("who steals at once: lad(1, 5)", x.lad(1, 5), 1);
        x.pass(1);
        Check.is("two forks wake two: count(6)", x.count(6), 0);
    }

    private static void check(HayThieves x, String when, int lad, int heaps, int left) {
        Check.is(when + ": lad(" + lad + ", 2)", x.lad(lad, 2), heaps);
        Check.is(when + ": lad(" + lad + ", 4)", x.lad(lad, 4), left);
    }

    /** Five loads of 60 bales, fork size 4; in the yard is always one for who finds nothing. */
    private static HayThieves sevenHeaps() {
        HayThieves x = new HayThieves();
        x.setFork(4);
        x.come(9);
        for (int i = 0; i < 7; i++) {
            x.bring(60);
        }
        x.pass(5);
        check(x, "forked four times", 0, 4, 3);
        x.come(9);
        x.pass(1);
        check(x, "lad 1 took a load", 1, 0, 60);
        Check.is("swap(1, 0)", x.swap(1, 0), 4);
        x.pass(2);
        check(x, "forked twice more", 1, 6, 15);
        x.come(9);
        x.pass(1);
        check(x, "forked three times more", 1, 7, 7);
        check(x, "lad 2 took a load", 2, 0, 60);
        return x;
    }

    private static void fullCart() {
        HayThieves x = sevenHeaps();
        x.pass(1);
        check(x, "the eighth heap", 1, 8, 3);
        int[] due = {4, 8, 15, 30, 4, 8, 15, 30};
        for (int place = 0; place < 8; place++) {
            Check.is("cart(1, " + place + ")", x.cart(1, place), due[place]);
        }
        check(x, "lad 2 forked", 2, 1, 30);
        Check.is("swap(2, 1)", x.swap(2, 1), 8);
        int forkings = x.load(3, 2);
        x.pass(1);
        check(x, "with a full cart 30 bales are pitched", 2, 8, 21);
        Check.is("and not forked: load(3, 2)", x.load(3, 2), forkings);
        Check.is("swap(2, 1)", x.swap(2, 1), 1);
        x.pass(1);
        check(x, "nor later", 2, 1, 12);
    }

    private static void fullCartWithoutTheHeapTaken() {
        HayThieves x = sevenHeaps();
        Check.is("swap(2, 1)", x.swap(2, 1), 7);
        x.pass(1);
        check(x, "the eighth heap", 2, 8, 30);
        x.pass(3);
        check(x, "pitched", 2, 8, 3);
        x.pass(1);
        check(x, "done", 2, 8, 0);
        Check.is("nothing to do yet: lad(2, 3)", x.lad(2, 3), 0);
        x.pass(1);
        check(x, "the next one taken and forked", 2, 8, 15);
        Check.is("cart(2, 0)", x.cart(2, 0), 15);
    }

    private static void joinedUpToTheLoad() {
        HayThieves x = new HayThieves();
        x.setFork(4);
        x.come(9);
        x.bring(10);
        // Taken; 10: 5 5; 5: 2 3; 2; 3; joined 5; 5: 2 3; 2; 3; joined 5; joined 10.
        int[] doing = {1, 1, 1, 0, 2, 0, 1, 0, 2, 2, 0};
        int[] joinings = {0, 0, 0, 0, 0, 1, 1, 1, 1, 2, 3};
        int[] left = {10, 5, 2, 0, 0, 0, 2, 0, 0, 0, 0};
        for (int minute = 0; minute < doing.length; minute++) {
            Check.is("pass(1) in " + minute, x.pass(1), minute == 10 ? 1 : 0);
            Check.is("behind " + minute + ": lad(0, 3)", x.lad(0, 3), doing[minute]);
            Check.is("behind " + minute + ": lad(0, 4)", x.lad(0, 4), left[minute]);
            Check.is("behind " + minute + ": count(9)", x.count(9), joinings[minute]);
            Check.is("behind " + minute + ": lad(0, 8)", x.lad(0, 8), doing[minute] == 0 ? -1 : 0);
        }
        Check.is("load(0, 2)", x.load(0, 2), 7);
        Check.is("load(0, 5)", x.load(0, 5), 10);
        Check.is("count(10)", x.count(10), 0);
    }

    private static void lastOfTwoJoins() {
        HayThieves x = new HayThieves();
        x.come(9);
        x.come(1);
        x.bring(18);
        // Lad 0 forks into 9 and 9 in the minute 1, and pitches its half in the minute 2.
        x.pass(3);
        Check.is("the first is free: lad(0, 3)", x.lad(0, 3), 0);
        Check.is("lad(1, 4)", x.lad(1, 4), 8);
        Check.is("pass(8)", x.pass(8), 0);
        Check.is("the other one has to join: lad(1, 3)", x.lad(1, 3), 2);
        Check.is("lad(1, 8)", x.lad(1, 8), 0);
        Check.is("bales of it: lad(1, 4)", x.lad(1, 4), 0);
        Check.is("the first one sleeps: lad(0, 3)", x.lad(0, 3), 3);
        Check.is("pitched, but not done: load(0, 6)", x.load(0, 6), 18);
        Check.is("pitched, but not done: load(0, 1)", x.load(0, 1), 1);
        Check.is("pass(1)", x.pass(1), 1);
        Check.is("load(0, 5)", x.load(0, 5), 11);
        Check.is("joining wakes nobody: lad(0, 3)", x.lad(0, 3), 3);
    }

    private static void whatEndsTheRowOfIdleMinutes() {
        HayThieves x = new HayThieves();
        x.come(9);
        x.come(9);
        x.setFork(9);
        x.pass(1);
        x.bring(14);
        // Lad 1 is idle in 0 and 1, steals 7 in 2, pitches them in 3, joins in 4, and is idle again.
        x.pass(2);
        Check.is("a theft: lad(1, 5)", x.lad(1, 5), 1);
        Check.is("two idle minutes before: lad(1, 7)", x.lad(1, 7), 2);
        x.pass(2);
        Check.is("lad 1 joins: load(0, 1)", x.load(0, 1), 2);
        Check.is("lad 0 is idle: lad(0, 7)", x.lad(0, 7), 2);
        x.pass(2);
        Check.is("two idle minutes after joining: lad(1, 3)", x.lad(1, 3), 0);
        Check.is("lad(1, 7)", x.lad(1, 7), 4);
        x.pass(1);
        Check.is("three idle minutes after joining: lad(1, 3)", x.lad(1, 3), 3);
    }
}
