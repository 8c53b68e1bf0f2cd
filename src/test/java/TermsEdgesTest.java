/** Each sentence of the document's part Terms that names an edge, in their order. */
public final class TermsEdgesTest {
    public static void main(String[] args) {
        timeFromNought();
        atMostTenLoads();
        balesOfALoad();
        inTheYardAtFirst();
        halves();
        doneWhenJoined();
        atMostSixLads();
        strengthOfALad();
        cartOfAtMostEight();
        oneHeapInTheHands();
        wayAtFirst();
        wayByNumbers();
        wayByHeaps();
        wayByBales();
        noneToStealFrom();
        forkSizeAtFirst();
        turnsByNumbers();
        whoSleepsDoesNothing();
        joiningIsAllOfTheTurn();
        nearEndAtOnce();
        moreBalesThanTheForkSize();
        noBalePitchedSoFar();
        fewerThanEightHeaps();
        withoutTheHeapJustTaken();
        forkingEndsTheTurn();
        smallestSleeperWakes();
        turnOfWhoWakes();
        strengthOrAllThatAreLeft();
        smallestLoadInTheYard();
        loadBeforeTheft();
        takingEndsTheTurn();
        farEnd();
        thirdIdleMinute();
        rowBeginsAnew();
        loadEndsTheRow();
        theftEndsTheRow();
        ownCartEndsTheRow();
        nothingByHandEndsTheRow();
        doneInThisMinute();
        whoIsLastJoins();
        broughtLoadWakesAll();
        Check.end();
    }

    private static void timeFromNought() {
        Check.sentence("Time is told in minutes, from 0.");
        HayThieves x = Yards.loads(1);
        Check.is("count(0)", x.count(0), 0);
        Check.is("load(0, 4)", x.load(0, 4), 0);
        x.pass(1);
        Check.is("a minute later: count(0)", x.count(0), 1);
        x.bring(1);
        Check.is("a minute later: load(1, 4)", x.load(1, 4), 1);
    }

    private static void atMostTenLoads() {
        Check.sentence("At most 10 are brought in all, numbered from 0 in the order of their coming");
        HayThieves x = new HayThieves();
        for (int load = 0; load < 10; load++) {
            Check.is("bring(" + (load + 1) + ")", x.bring(load + 1), load);
            Check.is("load(" + load + ", 0)", x.load(load, 0), load + 1);
        }
        Check.refuses(x, Check.STATE, "bring(1) with ten in the yard", () -> x.bring(1));
        x.come(9);
        x.pass(60);
        Check.is("all are done: count(3)", x.count(3), 10);
        Check.refuses(x, Check.STATE, "bring(1) with all ten done", () -> x.bring(1));
    }

    private static void balesOfALoad() {
        Check.sentence("each has 1 to 60 bales");
        for (int bales : Yards.around(1, 60)) {
            HayThieves x = new HayThieves();
            if (Yards.within(bales, 1, 60)) {
                Check.is("bring(" + bales + ")", x.bring(bales), 0);
                Check.is("its bales", x.load(0, 0), bales);
            } else {
                Check.refuses(x, Check.ARGUMENT, "bring(" + bales + ")", () -> x.bring(bales));
            }
        }
    }

    private static void inTheYardAtFirst() {
        Check.sentence("and waits in the yard at first");
        HayThieves x = Yards.loads(10);
        for (int load = 0; load < 10; load++) {
            Check.is("load(" + load + ", 1)", x.load(load, 1), 0);
        }
        Check.is("count(4)", x.count(4), 10);
        x.pass(60);
        Check.is("it waits on without lads: count(4)", x.count(4), 10);
    }

    private static void halves() {
        Check.sentence("the first one has half (cut) of its bales, the second one the others");
        for (int bales = 5; bales <= 60; bales++) {
            HayThieves x = Yards.alone(4, 1, bales);
            x.pass(2);
            Check.is("half of " + bales + ": lad(0, 4)", x.lad(0, 4), bales / 2);
            Check.is("the others of " + bales + ": cart(0, 0)", x.cart(0, 0), (bales + 1) / 2);
        }
    }

    private static void doneWhenJoined() {
        Check.sentence("forked: it is done when they are joined");
        HayThieves x = Yards.alone(10, 6, 12);
        // 0: taken. 1: forked (6, 6). 2: 6 pitched. 3: 6 pitched. 4: joined.
        Check.is("pass(4)", x.pass(4), 0);
        Check.is("all is pitched: load(0, 6)", x.load(0, 6), 12);
        Check.is("not done: load(0, 1)", x.load(0, 1), 1);
        Check.is("not done: load(0, 5)", x.load(0, 5), -1);
        Check.is("pass(1)", x.pass(1), 1);
        Check.is("done: load(0, 1)", x.load(0, 1), 2);
        Check.is("done: load(0, 5)", x.load(0, 5), 4);
    }

    private static void atMostSixLads() {
        Check.sentence("Lads. At most 6, numbered likewise");
        HayThieves x = new HayThieves();
        for (int lad = 0; lad < 6; lad++) {
            Check.is("come(" + (lad + 2) + ")", x.come(lad + 2), lad);
            Check.is("lad(" + lad + ", 0)", x.lad(lad, 0), lad + 2);
        }
        Check.refuses(x, Check.STATE, "come(1) with six", () -> x.come(1));
        x.pass(3);
        Check.refuses(x, Check.STATE, "come(1) with six who sleep", () -> x.come(1));
    }

    private static void strengthOfALad() {
        Check.sentence("each has a strength of 1 to 9");
        for (int strength : Yards.around(1, 9)) {
            HayThieves x = new HayThieves();
            if (Yards.within(strength, 1, 9)) {
                Check.is("come(" + strength + ")", x.come(strength), 0);
                Check.is("the strength", x.lad(0, 0), strength);
            } else {
                Check.refuses(x, Check.ARGUMENT, "come(" + strength + ")", () -> x.come(strength));
            }
        }
    }

    private static void cartOfAtMostEight() {
        Check.sentence("a row of at most 8 heaps, empty at first, with a near end and a far end");
        HayThieves none = Yards.lads(6);
        for (int lad = 0; lad < 6; lad++) {
            Check.is("at first: lad(" + lad + ", 2)", none.lad(lad, 2), 0);
        }
        for (int heaps = 0; heaps <= 8; heaps++) {
            HayThieves x = Yards.heaps(heaps);
            Check.is("lad(0, 2)", x.lad(0, 2), heaps);
            int[] due = Yards.bales(heaps);
            for (int place = 0; place < heaps; place++) {
                Check.is(heaps + " heaps: cart(0, " + place + ")", x.cart(0, place), due[place]);
            }
        }
        HayThieves x = Yards.full();
        for (int minute = 0; minute < 60; minute++) {
            x.pass(1);
            for (int lad = 0; lad < 6; lad++) {
                Check.same("at most 8: lad(" + lad + ", 2)", x.lad(lad, 2) <= 8, true);
            }
        }
    }

    private static void oneHeapInTheHands() {
        Check.sentence("One has one heap in the hands at most, at first none");
        HayThieves x = Yards.alone(60, 1, 3, 3);
        Check.is("at first: lad(0, 3)", x.lad(0, 3), 0);
        Check.is("at first: lad(0, 4)", x.lad(0, 4), 0);
        Check.is("at first: lad(0, 8)", x.lad(0, 8), -1);
        x.pass(3);
        Check.is("no second one: count(4)", x.count(4), 1);
        Check.is("lad(0, 8)", x.lad(0, 8), 0);
        Check.is("lad(0, 4)", x.lad(0, 4), 1);
    }

    private static void wayAtFirst() {
        Check.sentence("Each has a way to steal, 0 (at first) to 2");
        HayThieves x = Yards.lads(6);
        for (int lad = 0; lad < 6; lad++) {
            Check.is("lad(" + lad + ", 1)", x.lad(lad, 1), 0);
            Check.is("setWay(" + lad + ", 2)", x.setWay(lad, 2), 0);
        }
    }

    /**
     * The carts from 0 on, with the near end first: 8 15 5; 7 15 29; 8 15 30; 5 10 20; none; 30.
     * 0: all take a load. 1: all but lad 4 fork: 30; 29; 30; 20; none; 5. Lads 0 and 5 change carts.
     * 2: lads 0 to 3 fork: 15 5; 15 29; 15 30; 10 20. 3: once more.
     */
    private static HayThieves sixCarts() {
        HayThieves x = Yards.lads(6);
        x.setFork(9);
        for (int bales : new int[] {60, 58, 60, 40, 5, 10}) {
            x.bring(bales);
        }
        x.pass(2);
        x.swap(0, 5);
        x.pass(2);
        return x;
    }

    private static void victims(String what, HayThieves x, int way, int... due) {
        for (int lad = 0; lad < 6; lad++) {
            x.setWay(lad, way);
            Check.is(what + ": victim(" + lad + ")", x.victim(lad), due[lad]);
        }
    }

    private static void wayByNumbers() {
        Check.sentence("0: the first one by numbers behind its own, and from 0 on again");
        HayThieves x = sixCarts();
        victims("cart 4 is empty", x, 0, 1, 2, 3, 5, 5, 0);
        x.swap(2, 4);
        victims("cart 2 is empty", x, 0, 1, 3, 3, 4, 5, 0);
        x.swap(2, 0);
        victims("cart 0 is empty", x, 0, 1, 2, 3, 4, 5, 1);
        x.swap(0, 5);
        victims("cart 5 is empty", x, 0, 1, 2, 3, 4, 0, 0);
    }

    private static void wayByHeaps() {
        Check.sentence("1: the one with the most heaps in the cart, of several the one with the smallest number");
        HayThieves x = sixCarts();
        victims("3 3 3 3 0 1 heaps", x, 1, 1, 0, 0, 0, 0, 0);
        x.swap(0, 4);
        victims("0 3 3 3 3 1 heaps", x, 1, 1, 2, 1, 1, 1, 1);
        x.swap(1, 5);
        victims("0 1 3 3 3 3 heaps", x, 1, 2, 2, 3, 2, 2, 2);
        HayThieves y = Yards.sleeperWithHayAround();
        y.come(1);
        victims("0 0 0 1 0 0 heaps", y, 1, 3, 3, 3, -1, 3, 3);
    }

    private static void wayByBales() {
        Check.sentence("2: the heap at the far end of whose cart has the most bales, of several the smallest number");
        HayThieves x = sixCarts();
        victims("5 29 30 20 - 30 bales", x, 2, 2, 2, 5, 2, 2, 2);
        x.swap(2, 4);
        victims("5 29 - 20 30 30 bales", x, 2, 4, 4, 4, 4, 5, 4);
        x.swap(0, 5);
        victims("30 29 - 20 30 5 bales", x, 2, 4, 0, 0, 0, 0, 0);
        HayThieves y = Yards.sleeperWithHayAround();
        y.come(1);
        victims("one cart alone", y, 2, 3, 3, 3, -1, 3, 3);
    }

    private static void noneToStealFrom() {
        Check.sentence("of those other lads whose carts are not empty");
        HayThieves alone = Yards.heaps(4);
        HayThieves idle = Yards.lads(6);
        for (int way = 0; way <= 2; way++) {
            alone.setWay(0, way);
            Check.is("not from oneself, way " + way, alone.victim(0), -1);
            victims("all carts are empty", idle, way, -1, -1, -1, -1, -1, -1);
        }
    }

    private static void forkSizeAtFirst() {
        Check.sentence("Fork size. It is 4 to 60 (10, at first).");
        HayThieves x = new HayThieves();
        Check.is("count(12)", x.count(12), 10);
        for (int size : Yards.around(4, 60)) {
            if (Yards.within(size, 4, 60)) {
                x.setFork(size);
                Check.is("count(12)", x.count(12), size);
            } else {
                Check.refuses(x, Check.ARGUMENT, "setFork(" + size + ")", () -> x.setFork(size));
            }
        }
    }

    private static void turnsByNumbers() {
        Check.sentence("lads, by numbers, have a turn each; then the minute is 1 greater");
        HayThieves x = Yards.lads(6);
        for (int load = 0; load < 5; load++) {
            x.bring(60);
        }
        x.pass(1);
        for (int lad = 0; lad < 5; lad++) {
            Check.is("lad(" + lad + ", 8)", x.lad(lad, 8), lad);
        }
        Check.is("none is left for the last one: lad(5, 8)", x.lad(5, 8), -1);
        Check.is("one turn: lad(5, 7)", x.lad(5, 7), 1);
        Check.is("count(0)", x.count(0), 1);
        Check.is("without lads it is, too", new HayThieves().pass(1), 0);
    }

    private static void whoSleepsDoesNothing() {
        Check.sentence("1. One who sleeps does nothing.");
        HayThieves x = Yards.asleep(6);
        x.pass(60);
        Check.is("not idle any more: count(10)", x.count(10), 18);
        HayThieves y = Yards.sleeperWithHayAround();
        Check.is("lad 4 sleeps: lad(4, 3)", y.lad(4, 3), 3);
        Check.is("there is hay to steal: cart(3, 0)", y.cart(3, 0), 8);
        Check.is("lad 4 stole nothing: lad(4, 5)", y.lad(4, 5), 0);
        Check.is("lad 4 was not idle again: lad(4, 7)", y.lad(4, 7), 3);
        Check.is("lad 4 has nothing: lad(4, 8)", y.lad(4, 8), -1);
        y.swap(3, 4);
        y.pass(1);
        Check.is("lad 4 sleeps on while robbed: lad(4, 3)", y.lad(4, 3), 3);
        Check.is("lad(4, 6)", y.lad(4, 6), 1);
    }

    private static void joiningIsAllOfTheTurn() {
        Check.sentence("2. joins them, and this is all of this turn: the heap of which they are is done");
        HayThieves x = Yards.alone(4, 9, 10, 1);
        // Taken; 10: 5 5; 5: 2 3; 2; 3; now 5 has to be joined, and the other 5 is in the cart.
        x.pass(5);
        Check.is("has to join: lad(0, 3)", x.lad(0, 3), 2);
        x.pass(1);
        Check.is("joined: count(9)", x.count(9), 1);
        Check.is("empty hands: lad(0, 3)", x.lad(0, 3), 0);
        Check.is("the other half is not taken: cart(0, 0)", x.cart(0, 0), 5);
        Check.is("nor the load: count(4)", x.count(4), 1);
        Check.is("that load is not done: load(0, 1)", x.load(0, 1), 1);
        x.pass(4);
        Check.is("joined twice, to be joined again: lad(0, 3)", x.lad(0, 3), 2);
        Check.is("count(9)", x.count(9), 2);
        x.pass(1);
        Check.is("the load is done: load(0, 5)", x.load(0, 5), 10);
        Check.is("nothing was taken: lad(0, 3)", x.lad(0, 3), 0);
        Check.is("count(9)", x.count(9), 3);
    }

    private static void nearEndAtOnce() {
        Check.sentence("3. takes the heap at the near end of the own cart, if there is one, and goes on at once");
        HayThieves x = Yards.alone(4, 3, 22, 1);
        // 22: 11 11; 11: 5 6; 5: 2 3; then 2 are pitched.
        x.pass(5);
        Check.is("lad(0, 3)", x.lad(0, 3), 0);
        int[] due = {3, 6, 11};
        for (int place = 0; place < 3; place++) {
            Check.is("cart(0, " + place + ")", x.cart(0, place), due[place]);
        }
        x.pass(1);
        Check.is("3 are taken and pitched in one turn: load(0, 6)", x.load(0, 6), 5);
        Check.is("lad(0, 2)", x.lad(0, 2), 2);
        Check.is("not the load in the yard: count(4)", x.count(4), 1);
        // Joined; then 6 are taken and forked in one turn.
        x.pass(2);
        Check.is("forked: lad(0, 4)", x.lad(0, 4), 3);
        Check.is("forked: cart(0, 0)", x.cart(0, 0), 3);
        Check.is("forked: count(8)", x.count(8), 4);
    }

    private static void moreBalesThanTheForkSize() {
        Check.sentence("4. that has more bales than the fork size");
        for (int size = 4; size <= 60; size++) {
            HayThieves x = Yards.alone(size, 1, size);
            x.pass(2);
            Check.is(size + " bales at this fork size: count(8)", x.count(8), 0);
            Check.is(size + " bales at this fork size: lad(0, 4)", x.lad(0, 4), size - 1);
        }
        for (int size = 4; size < 60; size++) {
            HayThieves x = Yards.alone(size, 1, size + 1);
            x.pass(2);
            Check.is("one more than " + size + ": count(8)", x.count(8), 1);
            Check.is("one more than " + size + ": lad(0, 4)", x.lad(0, 4), (size + 1) / 2);
        }
    }

    private static void noBalePitchedSoFar() {
        Check.sentence("4. of which no bale was pitched so far");
        HayThieves x = Yards.alone(60, 1, 60);
        x.pass(2);
        x.setFork(4);
        x.pass(1);
        Check.is("one was pitched: lad(0, 4)", x.lad(0, 4), 58);
        Check.is("one was pitched: count(8)", x.count(8), 0);
        HayThieves y = Yards.alone(60, 1, 60);
        y.pass(1);
        y.setFork(59);
        y.pass(1);
        Check.is("none was pitched: lad(0, 4)", y.lad(0, 4), 30);
        Check.is("none was pitched: count(8)", y.count(8), 1);
    }

    private static void fewerThanEightHeaps() {
        Check.sentence("4. while fewer than 8 heaps are in the own cart");
        HayThieves seven = Yards.heaps(7);
        seven.pass(1);
        Check.is("15 in the hands are forked: lad(0, 4)", seven.lad(0, 4), 7);
        Check.is("the eighth heap: lad(0, 2)", seven.lad(0, 2), 8);
        Check.is("the eighth heap: cart(0, 0)", seven.cart(0, 0), 8);
        HayThieves eight = Yards.heaps(8);
        Check.is("more than the fork size: lad(0, 4)", eight.lad(0, 4), 7);
        eight.pass(1);
        Check.is("7 in the hands are pitched: lad(0, 4)", eight.lad(0, 4), 0);
        Check.is("7 in the hands are pitched: load(2, 6)", eight.load(2, 6), 7);
        Check.is("no ninth heap: lad(0, 2)", eight.lad(0, 2), 8);
    }

    private static void withoutTheHeapJustTaken() {
        Check.sentence("4. (without the one that was just taken)");
        HayThieves x = Yards.heaps(7);
        x.pass(2);
        Check.is("empty hands: lad(0, 3)", x.lad(0, 3), 0);
        Check.is("a full cart: lad(0, 2)", x.lad(0, 2), 8);
        Check.is("with 8 bales: cart(0, 0)", x.cart(0, 0), 8);
        x.pass(1);
        Check.is("forked: lad(0, 4)", x.lad(0, 4), 4);
        Check.is("forked: cart(0, 0)", x.cart(0, 0), 4);
        Check.is("full again: lad(0, 2)", x.lad(0, 2), 8);
    }

    private static void forkingEndsTheTurn() {
        Check.sentence("4. forks it, which ends the turn: the second half comes to the near end, the first one into the hands");
        HayThieves x = Yards.alone(4, 9, 59);
        x.pass(3);
        Check.is("the first half of the first half: lad(0, 4)", x.lad(0, 4), 14);
        Check.is("near: cart(0, 0)", x.cart(0, 0), 15);
        Check.is("far: cart(0, 1)", x.cart(0, 1), 30);
        Check.is("none is pitched: count(11)", x.count(11), 0);
        Check.is("load(0, 2)", x.load(0, 2), 5);
    }

    private static void smallestSleeperWakes() {
        Check.sentence("4. of the lads who sleep the one with the smallest number wakes");
        HayThieves x = Yards.lads(6);
        x.pass(2);
        x.bring(40);
        x.pass(1);
        Check.is("all but lad 0 sleep: count(6)", x.count(6), 5);
        x.pass(1);
        Check.is("one wakes: count(6)", x.count(6), 4);
        Check.same("lad 1: lad(1, 3)", x.lad(1, 3) == 3, false);
        HayThieves y = Yards.sleeperWithHayAround();
        Check.is("of 0 and 4 lad 0 wakes: lad(0, 3)", y.lad(0, 3), 0);
        Check.is("of 0 and 4 lad 4 does not: lad(4, 3)", y.lad(4, 3), 3);
    }

    private static void turnOfWhoWakes() {
        Check.sentence("4. (one with a greater number than the one who forks has a turn in this minute still)");
        HayThieves x = Yards.lads(2);
        x.pass(2);
        x.bring(40);
        x.pass(2);
        Check.is("lad 1 woke and stole: lad(1, 5)", x.lad(1, 5), 1);
        HayThieves y = Yards.sleeperWithHayAround();
        Check.is("lad 0 woke: lad(0, 3)", y.lad(0, 3), 0);
        Check.is("lad 0 has had no turn since: lad(0, 5)", y.lad(0, 5), 0);
        Check.is("lad 0 was idle in the turn before: lad(0, 7)", y.lad(0, 7), 3);
        y.pass(1);
        Check.is("lad 0 has one in the next minute: lad(0, 5)", y.lad(0, 5), 1);
    }

    private static void strengthOrAllThatAreLeft() {
        Check.sentence("4. pitches as many bales of it as the strength, or all that are left; with none left it is done");
        for (int strength = 1; strength <= 9; strength++) {
            for (int bales = 1; bales <= 10; bales++) {
                HayThieves x = Yards.alone(60, strength, bales);
                x.pass(2);
                String what = bales + " bales, strength " + strength;
                int left = Math.max(0, bales - strength);
                Check.is(what + ": lad(0, 4)", x.lad(0, 4), left);
                Check.is(what + ": load(0, 6)", x.load(0, 6), bales - left);
                Check.is(what + ": lad(0, 3)", x.lad(0, 3), left > 0 ? 1 : 0);
                Check.is(what + ": load(0, 1)", x.load(0, 1), left > 0 ? 1 : 2);
            }
        }
    }

    private static void smallestLoadInTheYard() {
        Check.sentence("5. takes the load with the smallest number of those in the yard into them");
        HayThieves x = Yards.alone(60, 9, 3, 60, 2, 60);
        x.pass(1);
        Check.is("of 0 to 3: lad(0, 8)", x.lad(0, 8), 0);
        x.come(9);
        x.pass(1);
        Check.is("0 is done, of 1 to 3: lad(1, 8)", x.lad(1, 8), 1);
        x.pass(1);
        Check.is("1 is in the hands, of 2 and 3: lad(0, 8)", x.lad(0, 8), 2);
    }

    private static void loadBeforeTheft() {
        Check.sentence("5. the load with the smallest number; without one the heap at the far end");
        HayThieves x = Yards.alone(10, 1, 60);
        x.pass(2);
        x.come(1);
        x.come(1);
        x.bring(1);
        x.pass(1);
        Check.is("a load is there: lad(1, 8)", x.lad(1, 8), 1);
        Check.is("a load is there: lad(1, 5)", x.lad(1, 5), 0);
        Check.is("none is left: lad(2, 8)", x.lad(2, 8), 0);
        Check.is("none is left: lad(2, 5)", x.lad(2, 5), 1);
    }

    private static void takingEndsTheTurn() {
        Check.sentence("5. either ends the turn");
        HayThieves x = Yards.alone(10, 9, 11);
        x.pass(1);
        Check.is("11 are taken, and not forked: lad(0, 4)", x.lad(0, 4), 11);
        x.come(9);
        x.pass(1);
        Check.is("6 are stolen, and not pitched: lad(1, 4)", x.lad(1, 4), 6);
        Check.is("count(11)", x.count(11), 0);
        HayThieves y = Yards.alone(10, 9, 1);
        y.pass(1);
        Check.is("1 is taken, and not pitched: lad(0, 4)", y.lad(0, 4), 1);
    }

    private static void farEnd() {
        Check.sentence("5. the heap at the far end of the cart of somebody else, by the way to steal (this is a theft)");
        for (int heaps = 1; heaps <= 4; heaps++) {
            HayThieves x = Yards.alone(4, 1, 60);
            x.pass(1 + heaps);
            x.setFork(60);
            x.come(1);
            x.pass(1);
            Check.is("of " + heaps + " heaps: lad(1, 4)", x.lad(1, 4), 30);
            Check.is("of " + heaps + " heaps: lad(0, 2)", x.lad(0, 2), heaps - 1);
            for (int place = 0; place < heaps - 1; place++) {
                Check.is("what is left: cart(0, " + place + ")", x.cart(0, place), Yards.bales(heaps)[place]);
            }
            Check.is("a theft by: lad(1, 5)", x.lad(1, 5), 1);
            Check.is("a theft from: lad(0, 6)", x.lad(0, 6), 1);
            Check.is("a theft of: load(0, 3)", x.load(0, 3), 1);
        }
    }

    private static void thirdIdleMinute() {
        Check.sentence("5. one who is idle for the third minute in a row falls asleep");
        for (int lads = 1; lads <= 6; lads++) {
            HayThieves x = Yards.lads(lads);
            x.pass(2);
            Check.is("behind two minutes: count(6)", x.count(6), 0);
            Check.is("behind two minutes: count(10)", x.count(10), 2 * lads);
            x.pass(1);
            Check.is("behind three minutes: count(6)", x.count(6), lads);
            Check.is("behind three minutes: count(10)", x.count(10), 3 * lads);
        }
    }

    private static void rowBeginsAnew() {
        Check.sentence("5. (the row of idle minutes begins anew then)");
        HayThieves x = Yards.asleep(1);
        x.wake(0);
        x.pass(2);
        Check.is("woken two minutes ago: lad(0, 3)", x.lad(0, 3), 0);
        x.pass(1);
        Check.is("woken three minutes ago: lad(0, 3)", x.lad(0, 3), 3);
        HayThieves y = Yards.asleep(2);
        y.bring(60);
        y.setFork(60);
        y.pass(2);
        Check.is("a load two minutes ago: lad(1, 3)", y.lad(1, 3), 0);
        y.pass(1);
        Check.is("a load three minutes ago: lad(1, 3)", y.lad(1, 3), 3);
    }

    /** The lad has been idle for two minutes in a row: one more is the third. */
    private static void idleTillTheThird(String what, HayThieves x, int lad) {
        Check.is(what + ", two idle minutes: lad(" + lad + ", 3)", x.lad(lad, 3), 0);
        x.pass(1);
        Check.is(what + ", three idle minutes: lad(" + lad + ", 3)", x.lad(lad, 3), 3);
    }

    private static void loadEndsTheRow() {
        Check.sentence("5. anything else that is done in a turn ends it: a load");
        HayThieves x = Yards.lads(1);
        x.pass(2);
        x.bring(1);
        x.pass(4);
        Check.is("lad(0, 7)", x.lad(0, 7), 4);
        idleTillTheThird("behind the load", x, 0);
    }

    private static void theftEndsTheRow() {
        Check.sentence("5. anything else that is done in a turn ends it: a theft");
        HayThieves x = Yards.alone(9, 9);
        x.come(9);
        x.pass(1);
        x.bring(18);
        // Lad 1 is idle in 0 and 1, steals 9 in 2, pitches them in 3, joins in 4, is idle in 5 and 6.
        x.pass(6);
        Check.is("lad(1, 5)", x.lad(1, 5), 1);
        Check.is("lad(1, 7)", x.lad(1, 7), 4);
        idleTillTheThird("behind the theft", x, 1);
    }

    private static void ownCartEndsTheRow() {
        Check.sentence("5. anything else that is done in a turn ends it: a heap of the own cart");
        HayThieves x = Yards.alone(10, 9, 1);
        x.pass(1);
        x.come(1);
        x.bring(14);
        // 1: lad 0 is done, lad 1 takes 14. 2: lad 0 is idle, lad 1 forks. 3: lad 0 takes and pitches 7.
        x.pass(2);
        x.swap(0, 1);
        x.pass(1);
        Check.is("lad(0, 5)", x.lad(0, 5), 0);
        Check.is("7 and 1: load(1, 6)", x.load(1, 6), 8);
        x.pass(2);
        Check.is("lad(0, 7)", x.lad(0, 7), 3);
        idleTillTheThird("behind the own cart", x, 0);
    }

    private static HayThieves idleTwice() {
        HayThieves x = Yards.asleep(1);
        x.come(1);
        x.pass(2);
        return x;
    }

    private static void fallsAsleepAllTheSame(String what, HayThieves x) {
        Check.is(what + ", before: lad(1, 3)", x.lad(1, 3), 0);
        x.pass(1);
        Check.is(what + ", then: lad(1, 3)", x.lad(1, 3), 3);
        Check.is(what + ", then: lad(1, 7)", x.lad(1, 7), 3);
    }

    private static void nothingByHandEndsTheRow() {
        Check.sentence("5. but nothing that is done by hand (ends the row)");
        HayThieves x = idleTwice();
        x.come(1);
        fallsAsleepAllTheSame("come", x);
        HayThieves y = idleTwice();
        y.setWay(1, 2);
        fallsAsleepAllTheSame("setWay", y);
        HayThieves z = idleTwice();
        z.setFork(4);
        fallsAsleepAllTheSame("setFork", z);
        HayThieves brought = idleTwice();
        brought.bring(60);
        fallsAsleepAllTheSame("bring", brought);
        HayThieves swapped = idleTwice();
        swapped.swap(0, 1);
        swapped.swap(1, 0);
        fallsAsleepAllTheSame("swap", swapped);
        HayThieves woken = idleTwice();
        woken.wake(0);
        fallsAsleepAllTheSame("wake", woken);
        HayThieves asked = idleTwice();
        asked.bring(1);
        asked.until(0);
        asked.foresee(60, 6);
        asked.advise(40);
        fallsAsleepAllTheSame("until, foresee, advise", asked);
    }

    private static void doneInThisMinute() {
        Check.sentence("A heap that is done: hands are empty then. A load is done in this minute.");
        HayThieves x = Yards.alone(60, 2, 4);
        x.pass(2);
        Check.is("2 are left: load(0, 5)", x.load(0, 5), -1);
        Check.is("pass(1)", x.pass(1), 1);
        Check.is("done in the minute 2: load(0, 5)", x.load(0, 5), 2);
        Check.is("which is over: count(0)", x.count(0), 3);
        Check.is("lad(0, 3)", x.lad(0, 3), 0);
        Check.is("lad(0, 8)", x.lad(0, 8), -1);
    }

    private static void whoIsLastJoins() {
        Check.sentence("If it is one of two halves, and the other one is done, too, this lad has to join them, in the next turn");
        HayThieves x = Yards.alone(10, 1, 12);
        x.pass(1);
        x.come(2);
        // Lad 0 forks (6, 6) in 1, and lad 1 steals in 1; lad 1 pitches in 2 to 4, lad 0 in 2 to 7.
        x.pass(4);
        Check.is("lad 1 is done: lad(1, 3)", x.lad(1, 3), 0);
        Check.is("lad 1 is done: lad(1, 8)", x.lad(1, 8), -1);
        x.pass(2);
        Check.is("one is left: lad(0, 4)", x.lad(0, 4), 1);
        x.pass(1);
        Check.is("lad 0 has to join: lad(0, 3)", x.lad(0, 3), 2);
        Check.is("lad 0 has to join: lad(0, 8)", x.lad(0, 8), 0);
        Check.is("lad 0 has to join: lad(0, 4)", x.lad(0, 4), 0);
        Check.is("not yet: count(9)", x.count(9), 0);
        x.pass(1);
        Check.is("joined: count(9)", x.count(9), 1);
        Check.is("joined: load(0, 5)", x.load(0, 5), 8);
        Check.is("joined: lad(0, 8)", x.lad(0, 8), -1);
    }

    private static void broughtLoadWakesAll() {
        Check.sentence("A load that is brought wakes all lads who sleep.");
        for (int lads = 0; lads <= 6; lads++) {
            HayThieves x = Yards.asleep(lads);
            Check.is("before: count(6)", x.count(6), lads);
            x.bring(1);
            Check.is("then: count(6)", x.count(6), 0);
        }
    }
}
