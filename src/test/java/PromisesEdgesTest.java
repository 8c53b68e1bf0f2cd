import java.math.BigInteger;

/** Each sentence of the promises that names an edge, in their order. */
public final class PromisesEdgesTest {
    public static void main(String[] args) {
        aNewObject();
        come();
        setWay();
        setFork();
        bring();
        swap();
        swapWakesNobody();
        wake();
        lad();
        loadOfALad();
        cart();
        load();
        loadThatIsNotDone();
        count();
        victim();
        victimOfAnyLad();
        thief();
        pass();
        untilRange();
        untilNowAndNever();
        untilThreeHundred();
        foresee();
        foreseeInYards();
        advise();
        adviseOfSeveral();
        adviseToTheMinute();
        mean();
        digestWrapsAround();
        digestInItsOrder();
        manyCalls();
        Check.end();
    }

    private static void aNewObject() {
        Check.sentence("1: without lads and loads, in the minute 0");
        HayThieves x = new HayThieves();
        for (int what = 0; what < 12; what++) {
            Check.is("count(" + what + ")", x.count(what), 0);
        }
        Check.is("count(12)", x.count(12), 10);
    }

    private static void come() {
        Check.sentence("2: throws if strength is not 1 to 9; if there are 6");
        for (int lads = 0; lads <= 6; lads++) {
            for (int strength : Yards.around(1, 9)) {
                HayThieves x = Yards.lads(lads);
                String what = "come(" + strength + ") with " + lads + " lads";
                if (!Yards.within(strength, 1, 9)) {
                    Check.refuses(x, Check.ARGUMENT, what, () -> x.come(strength));
                } else if (lads == 6) {
                    Check.refuses(x, Check.STATE, what, () -> x.come(strength));
                } else {
                    Check.is(what, x.come(strength), lads);
                }
            }
        }
    }

    private static void setWay() {
        Check.sentence("3: throws if there is no such lad, or way is not 0 to 2");
        for (int lads = 0; lads <= 6; lads++) {
            for (int lad : Yards.around(0, 6)) {
                HayThieves x = Yards.lads(lads);
                int before = 0;
                for (int way : Yards.around(0, 2)) {
                    String what = "setWay(" + lad + ", " + way + ") with " + lads + " lads";
                    if (Yards.within(lad, 0, lads - 1) && Yards.within(way, 0, 2)) {
                        Check.is(what + ", the one before", x.setWay(lad, way), before);
                        before = way;
                    } else {
                        Check.refuses(x, Check.INDEX, what, () -> x.setWay(lad, way));
                    }
                }
            }
        }
    }

    private static void setFork() {
        Check.sentence("4: throws if size is not 4 to 60; returns the one before");
        HayThieves x = new HayThieves();
        int before = 10;
        for (int size : Yards.around(4, 60)) {
            if (Yards.within(size, 4, 60)) {
                Check.is("setFork(" + size + ")", x.setFork(size), before);
                before = size;
            } else {
                Check.refuses(x, Check.ARGUMENT, "setFork(" + size + ")", () -> x.setFork(size));
            }
        }
    }

    private static void bring() {
        Check.sentence("5: throws if bales is not 1 to 60; if there were 10");
        for (int loads = 0; loads <= 10; loads++) {
            for (int bales : Yards.around(1, 60)) {
                HayThieves x = Yards.loads(loads);
                String what = "bring(" + bales + ") with " + loads + " loads";
                if (!Yards.within(bales, 1, 60)) {
                    Check.refuses(x, Check.ARGUMENT, what, () -> x.bring(bales));
                } else if (loads == 10) {
                    Check.refuses(x, Check.STATE, what, () -> x.bring(bales));
                } else {
                    Check.is(what, x.bring(bales), loads);
                }
            }
        }
    }

    private static void swap() {
        Check.sentence("6: throws if there is no such lad; if both are the same");
        for (int lads = 0; lads <= 6; lads++) {
            for (int a : Yards.around(0, 6)) {
                for (int b : Yards.around(0, 6)) {
                    HayThieves x = Yards.lads(lads);
                    String what = "swap(" + a + ", " + b + ") with " + lads + " lads";
                    if (!Yards.within(a, 0, lads - 1) || !Yards.within(b, 0, lads - 1)) {
                        Check.refuses(x, Check.INDEX, what, () -> x.swap(a, b));
                    } else if (a == b) {
                        Check.refuses(x, Check.ARGUMENT, what, () -> x.swap(a, b));
                    } else {
                        Check.is(what, x.swap(a, b), 0);
                    }
                }
            }
        }
        Check.sentence("6: returns how many heaps are in the cart of the first one then");
        for (int heaps = 5; heaps <= 8; heaps++) {
            HayThieves x = Yards.heaps(heaps);
            Check.is("swap(1, 0)", x.swap(1, 0), heaps);
            Check.is("lad(1, 2)", x.lad(1, 2), heaps);
            Check.is("lad(0, 2)", x.lad(0, 2), heaps - 5);
            Check.is("swap(1, 0) again", x.swap(1, 0), heaps - 5);
        }
    }

    private static void swapWakesNobody() {
        Check.sentence("6: Nothing else changes: nobody wakes, and it is no theft.");
        HayThieves x = Yards.sleeperWithHayAround();
        Check.is("a cart to who sleeps: swap(4, 3)", x.swap(4, 3), 1);
        Check.is("lad(4, 3)", x.lad(4, 3), 3);
        Check.is("hands stay: lad(3, 4)", x.lad(3, 4), 7);
        Check.is("no theft more: count(7)", x.count(7), 2);
        Check.is("lad(4, 5)", x.lad(4, 5), 0);
        Check.is("lad(3, 6)", x.lad(3, 6), 0);
        Check.is("load(1, 3)", x.load(1, 3), 2);
    }

    private static void wake() {
        Check.sentence("7: throws if there is no such lad; if this one does not sleep");
        for (int lads = 0; lads <= 6; lads++) {
            HayThieves awake = Yards.lads(lads);
            HayThieves asleep = Yards.asleep(lads);
            int sleepers = lads;
            for (int lad : Yards.around(0, 6)) {
                String what = "wake(" + lad + ") with " + lads + " lads";
                if (!Yards.within(lad, 0, lads - 1)) {
                    Check.refuses(awake, Check.INDEX, what, () -> awake.wake(lad));
                    Check.refuses(asleep, Check.INDEX, what + ", asleep", () -> asleep.wake(lad));
                    continue;
                }
                Check.refuses(awake, Check.STATE, what, () -> awake.wake(lad));
                sleepers--;
                Check.is(what + ", who sleep still", asleep.wake(lad), sleepers);
                Check.refuses(asleep, Check.STATE, what + ", woken", () -> asleep.wake(lad));
            }
        }
    }

    private static void lad() {
        Check.sentence("8: throws if there is no such lad, or what is not 0 to 8");
        int[] due = {1, 0, 0, 0, 0, 0, 0, 0, -1};
        for (int lads = 0; lads <= 6; lads++) {
            for (int lad : Yards.around(0, 6)) {
                HayThieves x = Yards.lads(lads);
                for (int what : Yards.around(0, 8)) {
                    String call = "lad(" + lad + ", " + what + ") with " + lads + " lads";
                    if (Yards.within(lad, 0, lads - 1) && Yards.within(what, 0, 8)) {
                        Check.is(call, x.lad(lad, what), due[what]);
                    } else {
                        Check.refuses(x, Check.INDEX, call, () -> x.lad(lad, what));
                    }
                }
            }
        }
    }

    private static void loadOfALad() {
        Check.sentence("8: bales that are left of the heap in the hands, 0 without one; the load of which it is, -1 for none");
        HayThieves x = Yards.alone(10, 7, 1, 14);
        // 0: taken. 1: done. 2: 14 taken. 3: forked. 4: 7 pitched. 5: 7 pitched. 6: joined. 7 to 9: idle.
        int[][] due = {
            {0, 0, -1}, {1, 1, 0}, {0, 0, -1}, {1, 14, 1}, {1, 7, 1}, {0, 0, -1}, {2, 0, 1},
            {0, 0, -1}, {0, 0, -1}, {0, 0, -1}, {3, 0, -1}
        };
        for (int minute = 0; minute < due.length; minute++) {
            Check.is("behind " + minute + ": lad(0, 3)", x.lad(0, 3), due[minute][0]);
            Check.is("behind " + minute + ": lad(0, 4)", x.lad(0, 4), due[minute][1]);
            Check.is("behind " + minute + ": lad(0, 8)", x.lad(0, 8), due[minute][2]);
            x.pass(1);
        }
    }

    private static void cart() {
        Check.sentence("9: throws if there is no such lad or place");
        for (int lads = 0; lads <= 6; lads++) {
            HayThieves x = Yards.lads(lads);
            for (int lad : Yards.around(0, 6)) {
                Check.refuses(x, Check.INDEX, "cart(" + lad + ", 0) of an empty cart", () -> x.cart(lad, 0));
            }
        }
        for (int heaps = 0; heaps <= 8; heaps++) {
            HayThieves x = Yards.heaps(heaps);
            int[] due = Yards.bales(heaps);
            for (int place : Yards.around(0, 8)) {
                String what = "cart(0, " + place + ") of " + heaps + " heaps";
                if (Yards.within(place, 0, heaps - 1)) {
                    Check.is(what, x.cart(0, place), due[place]);
                } else {
                    Check.refuses(x, Check.INDEX, what, () -> x.cart(0, place));
                }
            }
            for (int lad : new int[] {-1, x.count(1), Integer.MIN_VALUE, Integer.MAX_VALUE}) {
                Check.refuses(x, Check.INDEX, "cart(" + lad + ", 0)", () -> x.cart(lad, 0));
            }
        }
    }

    private static void load() {
        Check.sentence("10: throws if there is no such load, or what is not 0 to 6");
        for (int loads = 0; loads <= 10; loads++) {
            for (int load : Yards.around(0, 10)) {
                HayThieves x = Yards.loads(loads);
                int[] due = {load + 1, 0, 1, 0, 0, -1, 0};
                for (int what : Yards.around(0, 6)) {
                    String call = "load(" + load + ", " + what + ") with " + loads + " loads";
                    if (Yards.within(load, 0, loads - 1) && Yards.within(what, 0, 6)) {
                        Check.is(call, x.load(load, what), due[what]);
                    } else {
                        Check.refuses(x, Check.INDEX, call, () -> x.load(load, what));
                    }
                }
            }
        }
    }

    private static void loadThatIsNotDone() {
        Check.sentence("10: heaps, itself as well (2 more for each forking); the minute in which it was done, -1 if it is not");
        HayThieves x = new HayThieves();
        x.pass(7);
        x.setFork(7);
        x.come(7);
        x.bring(28);
        // 7: taken. 8: 14 14. 9: 7 7. 10, 11: pitched. 12: joined. 13: 7 7. 14, 15: pitched. 16, 17: joined.
        int[] heaps = {1, 1, 3, 5, 5, 5, 5, 7, 7, 7, 7, 7};
        for (int i = 0; i < heaps.length; i++) {
            Check.is("behind " + (6 + i) + ": load(0, 2)", x.load(0, 2), heaps[i]);
            Check.is("behind " + (6 + i) + ": load(0, 5)", x.load(0, 5), i < 11 ? -1 : 17);
            Check.is("behind " + (6 + i) + ": load(0, 4)", x.load(0, 4), 7);
            x.pass(1);
        }
    }

    private static void count() {
        Check.sentence("11: throws if what is not 0 to 12");
        HayThieves x = Yards.full();
        int[] due = {10, 6, 10, 0, 7, 11, 0, 0, 11, 0, 0, 3, 4};
        for (int what : Yards.around(0, 12)) {
            if (Yards.within(what, 0, 12)) {
                Check.is("count(" + what + ")", x.count(what), due[what]);
            } else {
                Check.refuses(x, Check.INDEX, "count(" + what + ")", () -> x.count(what));
            }
        }
    }

    private static void victim() {
        Check.sentence("12: -1 if from none; throws if there is no such lad");
        for (int lads = 0; lads <= 6; lads++) {
            HayThieves x = Yards.lads(lads);
            for (int lad : Yards.around(0, 6)) {
                if (Yards.within(lad, 0, lads - 1)) {
                    Check.is("victim(" + lad + ") with " + lads + " lads", x.victim(lad), -1);
                } else {
                    Check.refuses(x, Check.INDEX, "victim(" + lad + ") with " + lads + " lads", () -> x.victim(lad));
                }
            }
        }
    }

    private static void victimOfAnyLad() {
        Check.sentence("12: from whom this one would steal now (also for one who sleeps, or has something to do)");
        HayThieves x = Yards.sleeperWithHayAround();
        int[] doing = {0, 1, 1, 1, 3};
        int[] due = {3, 3, 3, -1, 3};
        for (int lad = 0; lad < 5; lad++) {
            Check.is("lad(" + lad + ", 3)", x.lad(lad, 3), doing[lad]);
            Check.is("victim(" + lad + ")", x.victim(lad), due[lad]);
        }
        HayThieves y = Yards.alone(4, 9, 10, 60);
        y.pass(5);
        y.come(1);
        // Lad 0 joins, takes and forks 5, pitches 2, then 3; lad 1 takes 60 and forks them.
        y.pass(4);
        Check.is("lad 0 has to join: lad(0, 3)", y.lad(0, 3), 2);
        Check.is("victim(0)", y.victim(0), 1);
    }

    private static void thief() {
        Check.sentence("13: of several the one with the smallest number; -1 without lads");
        Check.is("without lads", new HayThieves().thief(), -1);
        for (int lads = 1; lads <= 6; lads++) {
            Check.is("without thefts", Yards.lads(lads).thief(), 0);
        }
        HayThieves x = Yards.sleeperWithHayAround();
        Check.is("0 0 1 1 0 thefts", x.thief(), 2);
        x.pass(1);
        Check.is("1 0 1 1 0 thefts", x.thief(), 0);
        HayThieves last = Yards.alone(30, 1, 60, 60, 60, 60, 60);
        for (int lads = 1; lads < 5; lads++) {
            last.come(1);
        }
        // Five lads fork (30, 30), and pitch from then on.
        last.pass(2);
        last.come(1);
        last.pass(1);
        Check.is("0 0 0 0 0 1 thefts", last.thief(), 5);
    }

    private static void pass() {
        Check.sentence("14: throws if minutes is not 1 to 60");
        for (int minutes : Yards.around(1, 60)) {
            // Done in the minutes 1, 3, 5 and so on, up to 19.
            HayThieves x = Yards.alone(60, 1, 1, 1, 1, 1, 1, 1, 1, 1, 1, 1);
            if (Yards.within(minutes, 1, 60)) {
                Check.is("pass(" + minutes + ")", x.pass(minutes), Math.min(10, minutes / 2));
                Check.is("pass(" + minutes + "): count(0)", x.count(0), minutes);
                Check.is("the others: pass(60)", x.pass(60), 10 - Math.min(10, minutes / 2));
            } else {
                Check.refuses(x, Check.ARGUMENT, "pass(" + minutes + ")", () -> x.pass(minutes));
            }
        }
    }

    private static void untilRange() {
        Check.sentence("15: throws if there is no such load");
        for (int loads = 0; loads <= 10; loads++) {
            HayThieves x = Yards.loads(loads);
            x.setFork(60);
            x.come(9);
            for (int load : Yards.around(0, 10)) {
                String what = "until(" + load + ") with " + loads + " loads";
                if (Yards.within(load, 0, loads - 1)) {
                    // Two minutes for each, and one more for the tenth.
                    Check.is(what, x.until(load), 2 * (load + 1) + load / 9);
                } else {
                    Check.refuses(x, Check.INDEX, what, () -> x.until(load));
                }
            }
        }
    }

    private static void untilNowAndNever() {
        Check.sentence("15: 0 if it is now; -1 if not by then (nothing is changed)");
        HayThieves x = Yards.alone(60, 1, 2);
        for (int minutes = 3; minutes >= 0; minutes--) {
            Check.is("behind " + (3 - minutes) + ": until(0)", x.until(0), minutes);
            Check.is("count(0)", x.count(0), 3 - minutes);
            x.pass(1);
        }
        Check.is("done long ago: until(0)", x.until(0), 0);
        Check.is("without lads: until(9)", Yards.loads(10).until(9), -1);
    }

    /** A load that is done behind so many minutes: strength 1, and one minute more for each load. */
    private static HayThieves doneBehind(int minutes) {
        HayThieves x = Yards.alone(60, 1, 60, 60, 60, 60);
        x.bring(minutes - 4 * 61 - 1);
        return x;
    }

    private static void untilThreeHundred() {
        Check.sentence("15: at most 300; -1 if not by then");
        for (int minutes = 298; minutes <= 303; minutes++) {
            HayThieves x = doneBehind(minutes);
            Check.is("done behind " + minutes, x.until(4), minutes <= 300 ? minutes : -1);
            x.pass(1);
            Check.is("done behind " + minutes + ", a minute later", x.until(4), minutes <= 301 ? minutes - 1 : -1);
            Check.is("the one before it", x.until(3), 243);
        }
        HayThieves x = doneBehind(300);
        for (int i = 0; i < 5; i++) {
            x.pass(60);
        }
        Check.is("so it is: load(4, 5)", x.load(4, 5), 299);
    }

    private static void foresee() {
        Check.sentence("16: throws if minutes is not 1 to 60; if what is not 3 to 11 (nothing is changed)");
        for (int minutes : Yards.around(1, 60)) {
            HayThieves x = Yards.alone(4, 1, 1, 1, 5);
            HayThieves later = Yards.alone(4, 1, 1, 1, 5);
            if (Yards.within(minutes, 1, 60)) {
                later.pass(minutes);
            }
            for (int what : Yards.around(3, 11)) {
                String call = "foresee(" + minutes + ", " + what + ")";
                if (!Yards.within(minutes, 1, 60)) {
                    Check.refuses(x, Check.ARGUMENT, call, () -> x.foresee(minutes, what));
                } else if (!Yards.within(what, 3, 11)) {
                    Check.refuses(x, Check.INDEX, call, () -> x.foresee(minutes, what));
                } else {
                    Check.is(call, x.foresee(minutes, what), later.count(what));
                }
            }
            Check.is("count(0)", x.count(0), 0);
            Check.is("digest()", x.digest(), Yards.alone(4, 1, 1, 1, 5).digest());
        }
    }

    private static void foreseeInYards() {
        Check.sentence("16: this, behind so many minutes, if nothing is done by hand (nothing is changed)");
        Yards.Maker[] makers = {
            HayThieves::new, PromisesEdgesTest::idleForTwo, () -> Yards.asleep(6), () -> Yards.heaps(7),
            Yards::full, Yards::sleeperWithHayAround
        };
        for (int i = 0; i < makers.length; i++) {
            for (int minutes = 1; minutes <= 60; minutes++) {
                HayThieves x = makers[i].make();
                HayThieves later = makers[i].make();
                long digest = x.digest();
                later.pass(minutes);
                for (int what = 3; what <= 11; what++) {
                    String call = "yard " + i + ": foresee(" + minutes + ", " + what + ")";
                    Check.is(call, x.foresee(minutes, what), later.count(what));
                }
                Check.is("yard " + i + ": digest()", x.digest(), digest);
            }
        }
    }

    /** Six lads with a way each, two idle minutes, and a load that is stolen from. */
    private static HayThieves idleForTwo() {
        HayThieves x = Yards.lads(6);
        for (int lad = 0; lad < 6; lad++) {
            x.setWay(lad, (lad + 2) % 3);
        }
        x.pass(2);
        x.bring(60);
        return x;
    }

    private static void advise() {
        Check.sentence("17: throws if minutes is not 1 to 40 (nothing is changed)");
        HayThieves x = Yards.alone(7, 1, 60);
        long digest = x.digest();
        for (int minutes : Yards.around(1, 40)) {
            if (Yards.within(minutes, 1, 40)) {
                // In the minute 0 it is taken; only with 60 a bale is pitched in each minute behind it.
                Check.is("advise(" + minutes + ")", x.advise(minutes), minutes == 1 ? 4 : 60);
                Check.is("digest()", x.digest(), digest);
            } else {
                Check.refuses(x, Check.ARGUMENT, "advise(" + minutes + ")", () -> x.advise(minutes));
            }
        }
        Check.is("count(12)", x.count(12), 7);
    }

    /** Sizes of 4 to the most that is told fork the load, the others do not; a fork is a minute lost. */
    private static void advised(int bales, int due) {
        HayThieves x = Yards.alone(10, 1, bales);
        Check.is(bales + " bales: advise(2)", x.advise(2), due);
        Check.is("none is pitched: advise(1)", x.advise(1), 4);
    }

    private static void adviseOfSeveral() {
        Check.sentence("17: of 4, 8, 16, 32 and 60, of several the smallest one");
        int[] sizes = {4, 8, 16, 32, 60};
        for (int bales = 1; bales <= 60; bales++) {
            int due = 0;
            while (sizes[due] < bales) {
                due++;
            }
            advised(bales, sizes[due]);
        }
        Check.is("without lads: advise(40)", Yards.loads(10).advise(40), 4);
        Check.is("without loads: advise(40)", Yards.lads(6).advise(40), 4);
    }

    private static void adviseToTheMinute() {
        Check.sentence("17: behind so many minutes, if it was told now");
        // Taking them is a minute, too, and forking them one more.
        HayThieves x = Yards.alone(10, 1, 38);
        Check.is("38 bales, unforked alone: advise(39)", x.advise(39), 60);
        Check.is("38 bales, forked once, too: advise(40)", x.advise(40), 32);
        HayThieves y = Yards.alone(10, 1, 39);
        Check.is("39 bales, unforked alone: advise(40)", y.advise(40), 60);
        y.pass(1);
        Check.is("39 bales in the hands, unforked alone: advise(39)", y.advise(39), 60);
        Check.is("39 bales in the hands, forked once, too: advise(40)", y.advise(40), 32);
    }

    private static void mean() {
        Check.sentence("18: the mean of the idle minutes of all lads; 0 without any");
        Check.same("without lads", new HayThieves().mean(), 0.0);
        Check.same("without lads, ten loads", Yards.loads(10).mean(), 0.0);
        for (int lads = 1; lads <= 6; lads++) {
            Check.same("none idle", Yards.lads(lads).mean(), 0.0);
            Check.same("all idle", Yards.asleep(lads).mean(), 3.0);
            HayThieves x = Yards.lads(lads);
            x.bring(60);
            x.pass(1);
            Check.same("all but one", x.mean(), (lads - 1) / (double) lads);
        }
    }

    private static void digestWrapsAround() {
        Check.sentence("19: d becomes d * 31 + x, which wraps around as a 64-bit integer");
        BigInteger d = BigInteger.valueOf(1531).multiply(BigInteger.valueOf(31).pow(13)).add(BigInteger.TEN);
        Check.same("it is too great for a long", d.bitLength() > 63, true);
        Check.is("of a new object", new HayThieves().digest(), d.longValue());
    }

    private static BigInteger next(BigInteger d, int x) {
        return d.multiply(BigInteger.valueOf(31)).add(BigInteger.valueOf(x));
    }

    private static BigInteger ofLads(BigInteger start, HayThieves x) {
        BigInteger d = start;
        for (int lad = 0; lad < x.count(1); lad++) {
            for (int what = 0; what <= 8; what++) {
                d = next(d, x.lad(lad, what));
            }
            int heaps = x.lad(lad, 2);
            for (int place = 0; place < heaps; place++) {
                d = next(d, x.cart(lad, place));
            }
        }
        return d;
    }

    private static BigInteger ofAll(HayThieves x) {
        BigInteger d = BigInteger.valueOf(1531);
        for (int what = 0; what <= 12; what++) {
            d = next(d, x.count(what));
        }
        d = ofLads(d, x);
        for (int load = 0; load < x.count(2); load++) {
            for (int what = 0; what <= 6; what++) {
                d = next(d, x.load(load, what));
            }
        }
        return d;
    }

    private static void digestInItsOrder() {
        Check.sentence("19: count() in its order; for each lad lad(), then the cart from the near end on; for each load load()");
        Yards.Maker[] makers = {
            HayThieves::new, () -> Yards.lads(1), () -> Yards.lads(6), () -> Yards.loads(1), () -> Yards.loads(10),
            () -> Yards.heaps(1), () -> Yards.heaps(8), Yards::full, Yards::sleeperWithHayAround
        };
        for (int i = 0; i < makers.length; i++) {
            HayThieves x = makers[i].make();
            Check.is("yard " + i, x.digest(), ofAll(x).longValue());
            x.pass(60);
            Check.is("yard " + i + ", an hour later", x.digest(), ofAll(x).longValue());
        }
    }

    private static void manyCalls() {
        Check.sentence("An object is used for at most 512 calls after it has been made");
        HayThieves x = new HayThieves();
        x.come(1);
        for (int call = 2; call < 512; call++) {
            Check.is("call " + call + ": pass(60)", x.pass(60), 0);
        }
        Check.is("call 512: count(0)", x.count(0), 510 * 60);
    }
}
