/** Long runs of mixed calls, right and wrong ones, in which the program must answer as the model does. */
public final class ModelTest {
    private static final int RUNS = 600;
    // Each is followed by digest(), and an object is good for 512 calls.
    private static final int CALLS = 245;
    private static final int[] WILD = {Integer.MIN_VALUE, -7, -1, 10, 13, 61, 301, Integer.MAX_VALUE};

    // A row of numbers that is the same each time.
    private static long seed;

    private static int below(int bound) {
        seed = seed * 6364136223846793005L + 1442695040888963407L;
        return (int) ((seed >>> 33) % bound);
    }

    private static int from(int least, int most) {
        return below(40) == 0 ? WILD[below(WILD.length)] : least + below(most - least + 1);
    }

    public static void main(String[] args) {
        for (int run = 0; run < RUNS; run++) {
            seed = run * 7919L + 1;
            compare(run);
        }
        Check.end();
    }

    private static void compare(int run) {
        HayThieves x = new HayThieves();
        Model model = new Model();
        int quickest = 1 + below(12);
        int strongest = 1 + below(9);
        int telling = below(6);
        if (run % 2 == 0) {
            fillYard(x, model);
            quickest = 1;
        } else if (run % 4 == 1) {
            hireSix(x, model);
            quickest = 2;
        }
        for (int i = 0; i < CALLS; i++) {
            boolean crowds = run % 2 == 0 && model.count(1) > 1 && below(3) == 0;
            int call = crowds ? Model.SWAP : pick(i, telling);
            int a = crowds ? withMost(model, 4) : first(call, quickest, strongest);
            int b = crowds ? withMost(model, 2) : second(call);
            String what = "run " + run + ", call " + i + ": " + call + "(" + a + ", " + b + ")";
            Check.same(what, Check.outcome(() -> ask(x, call, a, b)), Check.outcome(() -> askModel(model, call, a, b)));
            Check.is(what + ", digest after it", x.digest(), model.digest());
        }
    }

    /** Who has the greatest heap gets the fullest cart: so carts are filled up to the last place. */
    private static int withMost(Model model, int what) {
        int best = 0;
        for (int lad = 1; lad < model.count(1); lad++) {
            if (model.lad(lad, what) > model.lad(best, what)) {
                best = lad;
            }
        }
        return best;
    }

    /** Many lads and few loads: so some sleep while there is hay in carts. */
    private static void hireSix(HayThieves x, Model model) {
        for (int i = 0; i < 6; i++) {
            int strength = 1 + below(3);
            Check.is("come", x.come(strength), model.act(Model.COME, strength, 0));
        }
    }

    private static void fillYard(HayThieves x, Model model) {
        Check.is("setFork", x.setFork(4), model.act(Model.SET_FORK, 4, 0));
        for (int i = 0; i < 10; i++) {
            int bales = 40 + below(21);
            Check.is("bring", x.bring(bales), model.act(Model.BRING, bales, 0));
        }
    }

    /** Lads at first, and then more often what changes something than what tells. */
    private static int pick(int i, int telling) {
        if (i < 3) {
            return Model.COME;
        }
        if (below(12) < telling) {
            return 7 + below(11);
        }
        int call = below(14);
        return call < 6 ? call : call < 9 ? Model.SWAP : Model.PASS;
    }

    private static int first(int call, int quickest, int strongest) {
        switch (call) {
            case Model.COME: return below(6) == 0 ? from(1, strongest) : 10;
            case Model.SET_FORK: return below(2) == 0 ? from(4, 12) : from(3, 61);
            case Model.BRING: return below(3) == 0 ? below(2) == 0 ? from(50, 60) : from(0, 61) : 0;
            case Model.PASS: return below(20) == 0 ? from(0, 61) : from(1, quickest);
            case 9: return from(0, 9);
            case 10: return from(0, 12);
            case 13: return from(0, 9);
            case 14: return from(0, 61);
            case 15: return from(0, 41);
            default: return from(0, 5);
        }
    }

    private static int second(int call) {
        switch (call) {
            case Model.SET_WAY: return from(0, 2);
            case 7: return from(0, 8);
            case 8: return from(0, 8);
            case 9: return from(0, 6);
            case 14: return from(2, 12);
            default: return from(0, 5);
        }
    }

    private static long ask(HayThieves x, int call, int a, int b) {
        switch (call) {
            case Model.COME: return x.come(a);
            case Model.SET_WAY: return x.setWay(a, b);
            case Model.SET_FORK: return x.setFork(a);
            case Model.BRING: return x.bring(a);
            case Model.SWAP: return x.swap(a, b);
            case Model.WAKE: return x.wake(a);
            case Model.PASS: return x.pass(a);
            case 7: return x.lad(a, b);
            case 8: return x.cart(a, b);
            case 9: return x.load(a, b);
            case 10: return x.count(a);
            case 11: return x.victim(a);
            case 12: return x.thief();
            case 13: return x.until(a);
            case 14: return x.foresee(a, b);
            case 15: return x.advise(a);
            case 16: return Double.doubleToLongBits(x.mean());
            default: return x.digest();
        }
    }

    private static long askModel(Model model, int call, int a, int b) {
        switch (call) {
            case 7: return model.lad(a, b);
            case 8: return model.cart(a, b);
            case 9: return model.load(a, b);
            case 10: return model.count(a);
            case 11: return model.victim(a);
            case 12: return model.thief();
            case 13: return model.until(a);
            case 14: return model.foresee(a, b);
            case 15: return model.advise(a);
            case 16: return Double.doubleToLongBits(model.mean());
            case 17: return model.digest();
            default: return model.act(call, a, b);
        }
    }
}
