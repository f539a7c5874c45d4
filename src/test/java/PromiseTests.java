/** One test for each promise: ordinary inputs, the edges that the document names, wrong inputs. */
public final class PromiseTests {
    private static final Class<IndexOutOfBoundsException> INDEX = Check.INDEX;
    private static final Class<IllegalArgumentException> ARGUMENT = Check.ARGUMENT;
    private static final Class<IllegalStateException> STATE = Check.STATE;
    private static final int LOWEST = Check.LOWEST;
    private static final int HIGHEST = Check.HIGHEST;
    private static final int[] NO_TOWS = {-1, 3, LOWEST, HIGHEST};

    public static void main(String[] args) {
        newObject();
        run();
        setPommels();
        setFlake();
        cannon();
        cannonRefuses();
        blast();
        skier();
        wax();
        join();
        leave();
        about();
        told();
        tow();
        stands();
        choice();
        count();
        passSnow();
        passQueues();
        passCoins();
        passPoints();
        passChoosesAnew();
        passTowsInOrder();
        passArguments();
        until();
        foresee();
        advise();
        mean();
        digest();
        objectsStandAlone();
        fullVillage();
        Check.end("PromiseTests");
    }

    /** Gives the village coins: somebody pays for wax, and is no more in the way. */
    private static void giveCoins(PommelTows x, int waxes) {
        int payer = x.skier(1, 2 * waxes);
        for (int i = 0; i < waxes; i++) {
            x.wax(payer, 0);
        }
    }

    private static void queue(String what, PommelTows x, int tow, int... due) {
        Check.same(what + ": length", x.tow(tow, 1), due.length);
        for (int place = 0; place < due.length; place++) {
            Check.same(what + ": place " + place, x.stands(tow, place), due[place]);
        }
        Check.refused(what + ": behind the end", x, INDEX, () -> x.stands(tow, due.length));
    }

    private static void newObject() {
        PommelTows x = new PommelTows();
        int[] due = {0, 1, 0, 0, 0, 0, 0, 0, 0};
        for (int what = 0; what < due.length; what++) {
            Check.same("new: count " + what, x.count(what), due[what]);
        }
        for (int tow = 0; tow < 3; tow++) {
            Check.same("new: pommels", x.tow(tow, 0), 2);
            Check.same("new: pulled", x.tow(tow, 2), 0);
            queue("new: queue", x, tow);
        }
        for (int hour = 0; hour < 6; hour++) {
            Check.same("new: flake", x.setFlake(hour, 1), 1);
        }
        Check.refused("new: run 0", x, INDEX, () -> x.about(0, 0));
        Check.refused("new: skier 0", x, INDEX, () -> x.told(0, 0));
        Check.sameDouble("new: mean", x.mean(), 0.0);
    }

    private static void run() {
        PommelTows x = new PommelTows();
        for (int i = 0; i < 6; i++) {
            Check.same("run", x.run(i % 3, i == 0 ? 1 : 9 - i + 1), i);
        }
        for (int i = 0; i < 6; i++) {
            Check.same("run: tow", x.about(i, 0), i % 3);
            Check.same("run: slope", x.about(i, 1), i == 0 ? 1 : 9 - i + 1);
            Check.same("run: depth", x.about(i, 2), 30);
            Check.same("run: skied", x.about(i, 4), 0);
        }
        Check.same("run: runs", x.count(3), 6);
        Check.refused("run: a seventh", x, STATE, () -> x.run(0, 5));
        Check.refused("run: full and slope", x, ARGUMENT, () -> x.run(0, 0));
        Check.refused("run: full, slope and tow", x, INDEX, () -> x.run(3, 10));
        PommelTows y = new PommelTows();
        for (int tow : NO_TOWS) {
            Check.refused("run: tow " + tow, y, INDEX, () -> y.run(tow, 5));
            Check.refused("run: tow and slope " + tow, y, INDEX, () -> y.run(tow, 0));
        }
        for (int slope : new int[] {0, 10, -1, LOWEST, HIGHEST}) {
            Check.refused("run: slope " + slope, y, ARGUMENT, () -> y.run(0, slope));
        }
        Check.same("run: behind refusals", y.run(2, 9), 0);
        Check.same("run: slope 1", y.run(0, 1), 1);
    }

    private static void setPommels() {
        PommelTows x = new PommelTows();
        int before = 2;
        for (int pommels : new int[] {1, 4, 3, 2, 4}) {
            Check.same("setPommels", x.setPommels(1, pommels), before);
            Check.same("setPommels: told", x.tow(1, 0), pommels);
            before = pommels;
        }
        Check.same("setPommels: other tow", x.tow(0, 0), 2);
        Check.same("setPommels: other tow", x.tow(2, 0), 2);
        for (int tow : NO_TOWS) {
            Check.refused("setPommels: tow " + tow, x, INDEX, () -> x.setPommels(tow, 2));
            Check.refused("setPommels: both " + tow, x, INDEX, () -> x.setPommels(tow, 0));
        }
        for (int pommels : new int[] {0, 5, -1, LOWEST, HIGHEST}) {
            Check.refused("setPommels: " + pommels, x, ARGUMENT, () -> x.setPommels(1, pommels));
        }
        x.setPommels(0, 1);
        x.setPommels(2, 4);
        for (int i = 0; i < 6; i++) {
            Villages.standing(x, 1, 10, i < 2 ? 0 : 2);
        }
        Check.same("setPommels: pulls so many", x.pass(1), 5);
    }

    private static void setFlake() {
        PommelTows x = new PommelTows();
        for (int hour = 0; hour < 6; hour++) {
            Check.same("setFlake", x.setFlake(hour, hour % 4), 1);
        }
        for (int hour = 0; hour < 6; hour++) {
            Check.same("setFlake: before", x.setFlake(hour, 3 - hour % 4), hour % 4);
        }
        for (int hour = 0; hour < 14; hour++) {
            Check.same("setFlake: of hour " + hour, x.count(1), 3 - hour % 6 % 4);
            x.pass(1);
        }
        for (int hour : new int[] {-1, 6, 7, LOWEST, HIGHEST}) {
            Check.refused("setFlake: hour " + hour, x, INDEX, () -> x.setFlake(hour, 1));
            Check.refused("setFlake: both " + hour, x, INDEX, () -> x.setFlake(hour, 4));
        }
        for (int flake : new int[] {-1, 4, LOWEST, HIGHEST}) {
            Check.refused("setFlake: flake " + flake, x, ARGUMENT, () -> x.setFlake(0, flake));
        }
    }

    private static void cannon() {
        PommelTows x = new PommelTows();
        x.run(0, 1);
        x.run(0, 9);
        giveCoins(x, 15);
        int depth = 30;
        int coins = 30;
        for (int i = 0; i < 6; i++) {
            depth = Math.min(90, depth + 12);
            coins -= 3;
            if (i < 5) {
                Check.same("cannon", x.cannon(1), depth);
                Check.same("cannon: told", x.about(1, 2), depth);
                Check.same("cannon: coins", x.count(2), coins);
            }
        }
        Check.refused("cannon: 90 deep", x, STATE, () -> x.cannon(1));
        Check.same("cannon: other run", x.about(0, 2), 30);
        PommelTows y = Villages.ofFlake(0);
        y.run(0, 2);
        y.pass(14);
        giveCoins(y, 3);
        Check.same("cannon: 86 deep", y.about(0, 2), 86);
        Check.same("cannon: held at 90", y.cannon(0), 90);
        Check.same("cannon: held at 90, coins", y.count(2), 3);
        Check.refused("cannon: 90 deep with 3 coins", y, STATE, () -> y.cannon(0));
    }

    private static void cannonRefuses() {
        PommelTows x = new PommelTows();
        Check.refused("cannon: no run, no coins", x, INDEX, () -> x.cannon(0));
        x.run(0, 1);
        Check.refused("cannon: no coins", x, STATE, () -> x.cannon(0));
        giveCoins(x, 1);
        Check.refused("cannon: 2 coins", x, STATE, () -> x.cannon(0));
        Villages.standing(x, 1, 1, 1);
        x.pass(1);
        Check.same("cannon: 3 coins", x.cannon(0), 42);
        Check.same("cannon: no coins left", x.count(2), 0);
        for (int run : new int[] {-1, 1, 6, LOWEST, HIGHEST}) {
            Check.refused("cannon: run " + run, x, INDEX, () -> x.cannon(run));
        }
    }

    private static void blast() {
        PommelTows x = Villages.ofFlake(0);
        x.run(0, 9);
        Check.refused("blast: 270", x, STATE, () -> x.blast(0));
        x.pass(1);
        Check.same("blast: 34 deep", x.blast(0), 17);
        Check.same("blast: told", x.about(0, 2), 17);
        Check.refused("blast: again", x, STATE, () -> x.blast(0));
        PommelTows y = new PommelTows();
        y.run(0, 6);
        y.run(1, 5);
        y.run(1, 7);
        y.setFlake(0, 0);
        y.setFlake(1, 3);
        y.pass(2);
        Check.same("blast: 33 deep", y.about(0, 2), 33);
        Check.refused("blast: 198", y, STATE, () -> y.blast(0));
        y.setFlake(2, 0);
        y.setFlake(3, 0);
        y.setFlake(4, 0);
        y.pass(1);
        y.setFlake(5, 0);
        Check.refused("blast: 259", y, STATE, () -> y.blast(2));
        y.pass(2);
        Check.same("blast: 45 deep", y.about(2, 2), 45);
        Check.same("blast: odd depth", y.blast(2), 23);
        Check.same("blast: odd depth, cut", y.about(2, 2), 22);
        for (int run : new int[] {-1, 3, LOWEST, HIGHEST}) {
            Check.refused("blast: run " + run, y, INDEX, () -> y.blast(run));
        }
        PommelTows z = Villages.ofFlake(0);
        z.run(0, 5);
        z.pass(7);
        Check.refused("blast: 290", z, STATE, () -> z.blast(0));
        z.setFlake(1, 2);
        z.pass(1);
        z.setFlake(2, 0);
        z.pass(1);
        Check.same("blast: 60 deep", z.about(0, 2), 60);
        Check.same("blast: just 300", z.blast(0), 30);
        PommelTows w = Villages.ofFlake(2);
        w.run(0, 9);
        w.pass(15);
        Check.same("blast: too little snow is flagged", w.about(0, 3), 1);
        Check.refused("blast: too little snow", w, STATE, () -> w.blast(0));
    }

    private static void skier() {
        PommelTows x = new PommelTows();
        int[] skills = {1, 9, 5, 3, 2, 4, 8, 7};
        int[] coins = {0, 60, 1, 59, 2, 30, 12, 7};
        for (int i = 0; i < 8; i++) {
            Check.same("skier", x.skier(skills[i], coins[i]), i);
        }
        for (int i = 0; i < 8; i++) {
            int[] due = {skills[i], coins[i], -1, 0, 0, 0, -1};
            for (int what = 0; what < due.length; what++) {
                Check.same("skier: told " + what, x.told(i, what), due[what]);
            }
        }
        Check.same("skier: skiers", x.count(4), 8);
        Check.refused("skier: a ninth", x, STATE, () -> x.skier(5, 5));
        Check.refused("skier: full and skill", x, ARGUMENT, () -> x.skier(0, 5));
        Check.refused("skier: full and coins", x, ARGUMENT, () -> x.skier(5, 61));
        PommelTows y = new PommelTows();
        for (int skill : new int[] {0, 10, -1, LOWEST, HIGHEST}) {
            Check.refused("skier: skill " + skill, y, ARGUMENT, () -> y.skier(skill, 5));
        }
        for (int purse : new int[] {-1, 61, LOWEST, HIGHEST}) {
            Check.refused("skier: coins " + purse, y, ARGUMENT, () -> y.skier(5, purse));
        }
        Check.same("skier: behind refusals", y.skier(9, 60), 0);
    }

    private static void wax() {
        PommelTows x = new PommelTows();
        x.skier(3, 9);
        x.skier(3, 1);
        int coins = 9;
        for (int wax = 0; wax < 4; wax++) {
            coins -= 2;
            Check.same("wax", x.wax(0, wax), coins);
            Check.same("wax: wax", x.told(0, 2), wax);
            Check.same("wax: layer", x.told(0, 3), 10);
            Check.same("wax: coins", x.told(0, 1), coins);
            Check.same("wax: village", x.count(2), 9 - coins);
        }
        Check.refused("wax: 1 coin", x, STATE, () -> x.wax(0, 0));
        Check.refused("wax: 1 coin from the first", x, STATE, () -> x.wax(1, 0));
        for (int wax : new int[] {-1, 4, LOWEST, HIGHEST}) {
            Check.refused("wax: " + wax, x, ARGUMENT, () -> x.wax(0, wax));
        }
        for (int skier : new int[] {-1, 2, 8, LOWEST, HIGHEST}) {
            Check.refused("wax: skier " + skier, x, INDEX, () -> x.wax(skier, 0));
            Check.refused("wax: skier and wax " + skier, x, INDEX, () -> x.wax(skier, 4));
        }
        x.skier(3, 2);
        Check.same("wax: just 2 coins", x.wax(2, 3), 0);
        PommelTows y = new PommelTows();
        y.run(0, 1);
        Villages.standing(y, 1, 20, 0);
        y.wax(0, 0);
        y.pass(3);
        Check.same("wax: worn layer", y.told(0, 3), 7);
        y.wax(0, 2);
        Check.same("wax: anew", y.told(0, 3), 10);
        Check.same("wax: another", y.told(0, 2), 2);
        queue("wax: queue as before", y, 0, 0);
    }

    private static void join() {
        PommelTows x = new PommelTows();
        for (int i = 0; i < 4; i++) {
            x.skier(1, i);
        }
        Check.same("join", x.join(2, 1), 0);
        Check.same("join", x.join(0, 1), 1);
        Check.same("join", x.join(3, 1), 2);
        queue("join", x, 1, 2, 0, 3);
        Check.same("join: same tow", x.join(2, 1), 2);
        queue("join: same tow", x, 1, 0, 3, 2);
        Check.same("join: same tow, from the end", x.join(2, 1), 2);
        queue("join: same tow, from the end", x, 1, 0, 3, 2);
        Check.same("join: other tow", x.join(3, 0), 0);
        queue("join: left behind", x, 1, 0, 2);
        queue("join: other tow", x, 0, 3);
        Check.same("join: told", x.told(3, 6), 0);
        Check.same("join: behind another", x.join(1, 0), 1);
        for (int skier : new int[] {-1, 4, 8, LOWEST, HIGHEST}) {
            Check.refused("join: skier " + skier, x, INDEX, () -> x.join(skier, 0));
        }
        for (int tow : NO_TOWS) {
            Check.refused("join: tow " + tow, x, INDEX, () -> x.join(0, tow));
            Check.refused("join: both " + tow, x, INDEX, () -> x.join(4, tow));
        }
        PommelTows y = new PommelTows();
        for (int i = 0; i < 8; i++) {
            y.skier(1, 0);
            Check.same("join: all", y.join(i, 2), i);
        }
    }

    private static void leave() {
        PommelTows x = new PommelTows();
        for (int i = 0; i < 4; i++) {
            Villages.standing(x, 1, 5, 2);
        }
        x.skier(1, 5);
        Check.same("leave: from none", x.leave(4) ? 1 : 0, 0);
        Check.same("leave", x.leave(1) ? 1 : 0, 1);
        queue("leave", x, 2, 0, 2, 3);
        Check.same("leave: told", x.told(1, 6), -1);
        Check.same("leave: again", x.leave(1) ? 1 : 0, 0);
        Check.same("leave: the first", x.leave(0) ? 1 : 0, 1);
        Check.same("leave: the last", x.leave(3) ? 1 : 0, 1);
        queue("leave: one left", x, 2, 2);
        Check.same("leave: the only one", x.leave(2) ? 1 : 0, 1);
        queue("leave: none left", x, 2);
        for (int tow = 0; tow < 3; tow++) {
            x.join(4, tow);
            Check.same("leave: tow " + tow, x.leave(4) ? 1 : 0, 1);
            queue("leave: tow " + tow, x, tow);
        }
        for (int skier : new int[] {-1, 5, LOWEST, HIGHEST}) {
            Check.refused("leave: skier " + skier, x, INDEX, () -> x.leave(skier));
        }
    }

    private static void about() {
        PommelTows x = Villages.ofFlake(2);
        x.run(2, 4);
        x.run(1, 9);
        Villages.standing(x, 3, 60, 2);
        x.pass(3);
        int[] due = {2, 4, 21, 0, 3};
        for (int what = 0; what < due.length; what++) {
            Check.same("about " + what, x.about(0, what), due[what]);
        }
        x.pass(5);
        Check.same("about: 6 deep", x.about(0, 2), 6);
        Check.same("about: 6 deep, open", x.about(0, 3), 0);
        x.leave(0);
        x.setFlake(2, 3);
        x.pass(1);
        Check.same("about: 5 deep", x.about(0, 2), 5);
        Check.same("about: 5 deep, open", x.about(0, 3), 0);
        x.setFlake(3, 3);
        x.pass(1);
        Check.same("about: 4 deep", x.about(0, 2), 4);
        Check.same("about: 4 deep, flagged", x.about(0, 3), 1);
        Check.same("about: skied in all", x.about(0, 4), 8);
        for (int what : new int[] {-1, 5, LOWEST, HIGHEST}) {
            Check.refused("about: what " + what, x, INDEX, () -> x.about(0, what));
        }
        for (int run : new int[] {-1, 2, 6, LOWEST, HIGHEST}) {
            Check.refused("about: run " + run, x, INDEX, () -> x.about(run, 0));
        }
        PommelTows y = Villages.ofFlake(0);
        y.run(0, 6);
        y.run(0, 5);
        y.setFlake(0, 2);
        y.pass(6);
        Check.same("about: 48 deep", y.about(0, 2), 48);
        Check.same("about: 288, open", y.about(0, 3), 0);
        y.setFlake(0, 3);
        y.pass(1);
        y.setFlake(1, 0);
        y.pass(1);
        Check.same("about: 51 deep", y.about(0, 2), 51);
        Check.same("about: 306, flagged", y.about(0, 3), 1);
        y.setFlake(2, 3);
        y.pass(1);
        Check.same("about: 300, flagged", y.about(0, 3), 1);
        y.setFlake(3, 3);
        y.pass(1);
        Check.same("about: 294, open", y.about(0, 3), 0);
    }

    private static void told() {
        PommelTows x = new PommelTows();
        x.run(1, 6);
        x.skier(9, 0);
        Villages.standing(x, 5, 20, 1);
        x.wax(1, 3);
        x.pass(2);
        int[] due = {5, 16, 3, 8, 46, 2, 1};
        for (int what = 0; what < due.length; what++) {
            Check.same("told " + what, x.told(1, what), due[what]);
        }
        x.pass(7);
        Check.same("told: layer of 1", x.told(1, 3), 1);
        Check.same("told: layer of 1, wax", x.told(1, 2), 3);
        x.pass(1);
        Check.same("told: layer of 0", x.told(1, 3), 0);
        Check.same("told: layer of 0, no wax", x.told(1, 2), -1);
        for (int what : new int[] {-1, 7, LOWEST, HIGHEST}) {
            Check.refused("told: what " + what, x, INDEX, () -> x.told(0, what));
        }
        for (int skier : new int[] {-1, 2, 8, LOWEST, HIGHEST}) {
            Check.refused("told: skier " + skier, x, INDEX, () -> x.told(skier, 0));
        }
    }

    private static void tow() {
        PommelTows x = new PommelTows();
        x.setPommels(2, 3);
        Villages.standing(x, 1, 2, 2);
        Villages.standing(x, 1, 60, 2);
        Check.same("tow: queue", x.tow(2, 1), 2);
        x.pass(4);
        Check.same("tow: pommels", x.tow(2, 0), 3);
        Check.same("tow: queue later", x.tow(2, 1), 1);
        Check.same("tow: pulled", x.tow(2, 2), 6);
        Check.same("tow: other", x.tow(1, 2), 0);
        for (int what : new int[] {-1, 3, LOWEST, HIGHEST}) {
            Check.refused("tow: what " + what, x, INDEX, () -> x.tow(0, what));
        }
        for (int tow : NO_TOWS) {
            Check.refused("tow: " + tow, x, INDEX, () -> x.tow(tow, 0));
        }
    }

    private static void stands() {
        PommelTows x = new PommelTows();
        Villages.standing(x, 1, 1, 0);
        Villages.standing(x, 1, 1, 2);
        Villages.standing(x, 1, 1, 0);
        x.skier(1, 1);
        queue("stands", x, 0, 0, 2);
        queue("stands", x, 1);
        queue("stands", x, 2, 1);
        for (int place : new int[] {-1, 2, 8, LOWEST, HIGHEST}) {
            Check.refused("stands: place " + place, x, INDEX, () -> x.stands(0, place));
        }
        for (int tow : NO_TOWS) {
            Check.refused("stands: tow " + tow, x, INDEX, () -> x.stands(tow, 0));
            Check.refused("stands: both " + tow, x, INDEX, () -> x.stands(tow, -1));
        }
    }

    private static void choice() {
        PommelTows x = Villages.ofFlake(0);
        x.run(0, 3);
        x.run(0, 5);
        x.run(0, 5);
        x.run(1, 4);
        x.run(0, 9);
        x.skier(2, 0);
        x.skier(3, 0);
        x.skier(4, 0);
        x.skier(1, 0);
        x.skier(9, 0);
        int[] due = {0, 0, 1, -1, 4};
        int[] dueAtOne = {-1, 3, 3, -1, 3};
        for (int i = 0; i < due.length; i++) {
            Check.same("choice at 0 of " + i, x.choice(i, 0), due[i]);
            Check.same("choice at 1 of " + i, x.choice(i, 1), dueAtOne[i]);
            Check.same("choice at 2 of " + i, x.choice(i, 2), -1);
        }
        x.join(4, 2);
        Check.same("choice: wherever one stands", x.choice(4, 1), 3);
        x.pass(1);
        Check.same("choice: the steepest is flagged", x.choice(4, 0), 1);
        x.pass(7);
        Check.same("choice: 62 deep", x.choice(4, 0), 0);
        for (int skier : new int[] {-1, 5, LOWEST, HIGHEST}) {
            Check.refused("choice: skier " + skier, x, INDEX, () -> x.choice(skier, 0));
        }
        for (int tow : NO_TOWS) {
            Check.refused("choice: tow " + tow, x, INDEX, () -> x.choice(0, tow));
        }
    }

    private static void count() {
        PommelTows x = new PommelTows();
        x.setFlake(1, 3);
        x.setFlake(0, 0);
        x.run(0, 9);
        x.run(0, 2);
        x.run(1, 3);
        Villages.standing(x, 9, 10, 0);
        Villages.standing(x, 5, 10, 1);
        Villages.standing(x, 5, 10, 2);
        x.skier(5, 60);
        x.wax(3, 2);
        x.pass(1);
        int[] due = {1, 3, 5, 3, 4, 1, 3, 3, (6 + 9 - 4) + (9 + 5 - 4)};
        for (int what = 0; what < due.length; what++) {
            Check.same("count " + what, x.count(what), due[what]);
        }
        x.pass(60);
        Check.same("count: hour", x.count(0), 61);
        Check.same("count: flake", x.count(1), 3);
        Check.same("count: rides in all", x.count(6), 30);
        Check.same("count: queues are empty", x.count(7), 0);
        for (int what : new int[] {-1, 9, LOWEST, HIGHEST}) {
            Check.refused("count: what " + what, x, INDEX, () -> x.count(what));
        }
    }

    private static void passSnow() {
        int[] deeper = {4, 0, -2, -1};
        for (int flake = 0; flake < 4; flake++) {
            PommelTows x = Villages.ofFlake(flake);
            x.run(0, 1);
            int depth = 30;
            for (int hour = 0; hour < 35; hour++) {
                x.pass(1);
                depth = Math.max(0, Math.min(90, depth + deeper[flake]));
                Check.same("pass: depth with flake " + flake, x.about(0, 2), depth);
            }
        }
        PommelTows y = new PommelTows();
        y.run(0, 1);
        y.setFlake(5, 0);
        y.pass(5);
        Check.same("pass: ahead of hour 5", y.about(0, 2), 30);
        y.pass(1);
        Check.same("pass: hour 5", y.about(0, 2), 34);
        y.pass(6);
        Check.same("pass: hour 11", y.about(0, 2), 38);
    }

    private static void passQueues() {
        PommelTows x = new PommelTows();
        for (int i = 0; i < 5; i++) {
            Villages.standing(x, 1, 10, 0);
        }
        Check.same("pass: rides", x.pass(1), 2);
        queue("pass: to the end", x, 0, 2, 3, 4, 0, 1);
        Check.same("pass: rides of 2 hours", x.pass(2), 4);
        queue("pass: round", x, 0, 1, 2, 3, 4, 0);
        PommelTows y = new PommelTows();
        y.setPommels(1, 4);
        Villages.standing(y, 1, 10, 1);
        Villages.standing(y, 1, 10, 1);
        Check.same("pass: each once", y.pass(1), 2);
        queue("pass: each once", y, 1, 0, 1);
        Check.same("pass: rode once", y.told(0, 5), 1);
    }

    private static void passCoins() {
        PommelTows x = new PommelTows();
        int[] coins = {0, 1, 0, 2, 0, 3, 0};
        for (int purse : coins) {
            Villages.standing(x, 1, purse, 0);
        }
        Check.same("pass: with coins", x.pass(1), 2);
        queue("pass: without a coin", x, 0, 4, 5, 6, 1, 3);
        Check.same("pass: left", x.told(0, 6), -1);
        Check.same("pass: left", x.told(2, 6), -1);
        Check.same("pass: not looked at", x.told(4, 6), 0);
        Check.same("pass: paid", x.told(1, 1), 0);
        Check.same("pass: to the village", x.count(2), 2);
        Check.same("pass: no ride", x.told(0, 5), 0);
        Check.same("pass: past those without", x.pass(1), 2);
        queue("pass: second hour", x, 0, 5, 3);
        PommelTows y = new PommelTows();
        Villages.standing(y, 1, 0, 2);
        Villages.standing(y, 1, 0, 2);
        Villages.standing(y, 1, 0, 2);
        Check.same("pass: nobody has a coin", y.pass(1), 0);
        queue("pass: all left", y, 2);
        Check.same("pass: none pulled", y.tow(2, 2), 0);
    }

    private static void passPoints() {
        for (int flake = 0; flake < 4; flake++) {
            for (int wax = -1; wax < 4; wax++) {
                PommelTows x = Villages.ofFlake(flake);
                x.run(0, 4);
                Villages.standing(x, 6, 20, 0);
                if (wax >= 0) {
                    x.wax(0, wax);
                }
                x.pass(1);
                int glide = wax < 0 ? -4 : 4 - 2 * Math.abs(wax - flake);
                Check.same("pass: wax " + wax + " on " + flake, x.told(0, 4), 12 + 6 + glide);
                Check.same("pass: layer", x.told(0, 3), wax < 0 ? 0 : 9);
                Check.same("pass: skied", x.about(0, 4), 1);
            }
        }
        PommelTows x = new PommelTows();
        x.run(0, 1);
        Villages.standing(x, 1, 60, 0);
        x.wax(0, 1);
        x.pass(9);
        Check.same("pass: 9 on wax", x.told(0, 4), 72);
        x.pass(1);
        Check.same("pass: a layer of 1 counts", x.told(0, 4), 80);
        x.pass(1);
        Check.same("pass: a layer of 0 does not", x.told(0, 4), 80);
        PommelTows z = new PommelTows();
        z.run(0, 1);
        Villages.standing(z, 1, 60, 0);
        z.pass(2);
        Check.same("pass: the fewest points", z.told(0, 4), 0);
        PommelTows y = new PommelTows();
        y.run(2, 9);
        y.run(2, 9);
        Villages.standing(y, 9, 60, 2);
        y.pass(31);
        Check.same("pass: 992 points", y.told(0, 4), 31 * 32);
        Check.same("pass: the second run, as the first is flagged", y.about(1, 4), 5);
        y.pass(1);
        Check.same("pass: held at 999", y.told(0, 4), 999);
        y.pass(1);
        Check.same("pass: stays at 999", y.told(0, 4), 999);
    }

    private static void passChoosesAnew() {
        PommelTows x = new PommelTows();
        x.run(0, 1);
        x.setFlake(0, 2);
        x.setFlake(1, 2);
        x.skier(1, 60);
        x.join(0, 0);
        x.wax(0, 2);
        for (int hour = 0; hour < 6; hour++) {
            x.setFlake(hour, 2);
        }
        x.pass(8);
        Check.same("pass: 6 deep", x.about(0, 2), 6);
        int points = x.told(0, 4);
        x.pass(1);
        Check.same("pass: 4 deep ahead of skiing", x.about(0, 2), 4);
        Check.same("pass: beside the tow", x.told(0, 4), points);
        Check.same("pass: a ride all the same", x.told(0, 5), 9);
        Check.same("pass: paid all the same", x.told(0, 1), 49);
        Check.same("pass: the wax stays", x.told(0, 3), 2);
        Check.same("pass: not skied", x.about(0, 4), 8);
        queue("pass: at the end all the same", x, 0, 0);
        PommelTows y = new PommelTows();
        y.run(0, 9);
        y.run(0, 8);
        y.setFlake(0, 0);
        y.setPommels(0, 4);
        for (int i = 0; i < 3; i++) {
            Villages.standing(y, 9, 60, 0);
        }
        y.pass(1);
        Check.same("pass: 34 deep is flagged", y.about(0, 4), 0);
        Check.same("pass: 34 deep", y.about(1, 4), 3);
        y.setFlake(1, 3);
        y.pass(1);
        Check.same("pass: 33 deep is open", y.about(0, 4), 3);
        PommelTows z = new PommelTows();
        z.run(0, 9);
        z.run(0, 1);
        for (int hour = 0; hour < 6; hour++) {
            z.setFlake(hour, 2);
        }
        z.pass(12);
        z.setPommels(0, 4);
        for (int i = 0; i < 3; i++) {
            Villages.standing(z, 9, 60, 0);
        }
        z.setFlake(0, 3);
        z.pass(1);
        Check.same("pass: the first skis down", z.about(0, 4), 1);
        Check.same("pass: the next find it flagged", z.about(1, 4), 1);
        Check.same("pass: points of the first", z.told(0, 4), 27 + 9 - 4);
        Check.same("pass: points of the next", z.told(1, 4), 3 + 9 - 4);
        Check.same("pass: no run is left", z.told(2, 4), 0);
    }

    private static void passTowsInOrder() {
        PommelTows x = new PommelTows();
        x.run(2, 1);
        x.run(0, 1);
        Villages.standing(x, 1, 5, 2);
        Villages.standing(x, 1, 5, 0);
        Villages.standing(x, 1, 5, 1);
        Check.same("pass: all tows", x.pass(1), 3);
        for (int tow = 0; tow < 3; tow++) {
            Check.same("pass: tow " + tow, x.tow(tow, 2), 1);
        }
        Check.same("pass: the tow's own run", x.about(0, 4), 1);
        Check.same("pass: the tow's own run", x.about(1, 4), 1);
        Check.same("pass: a tow without runs", x.told(2, 4), 0);
    }

    private static void passArguments() {
        PommelTows x = new PommelTows();
        x.run(0, 1);
        Villages.standing(x, 1, 60, 0);
        for (int hours : new int[] {0, 61, -1, LOWEST, HIGHEST}) {
            Check.refused("pass: " + hours, x, ARGUMENT, () -> x.pass(hours));
        }
        Check.same("pass: 60", x.pass(60), 60);
        Check.same("pass: hour 60", x.count(0), 60);
        Check.same("pass: no coins are left", x.pass(1), 0);
        Check.same("pass: hour 61", x.count(0), 61);
    }

    private static void until() {
        PommelTows x = new PommelTows();
        x.setPommels(0, 1);
        for (int i = 0; i < 5; i++) {
            Villages.standing(x, 1, 10, 0);
        }
        x.skier(1, 10);
        Villages.standing(x, 1, 0, 1);
        Villages.standing(x, 1, 1, 1);
        long before = x.digest();
        for (int i = 0; i < 5; i++) {
            Check.same("until: " + i, x.until(i), i + 1);
        }
        Check.same("until: at no tow", x.until(5), -1);
        Check.same("until: no coin", x.until(6), -1);
        Check.same("until: behind one without a coin", x.until(7), 1);
        Check.same("until: changes nothing", x.digest(), before);
        x.pass(1);
        Check.same("until: just ridden", x.until(0), 5);
        Check.same("until: coins spent", x.until(7), -1);
        for (int skier : new int[] {-1, 8, LOWEST, HIGHEST}) {
            Check.refused("until: skier " + skier, x, INDEX, () -> x.until(skier));
        }
        PommelTows y = new PommelTows();
        y.skier(1, 1);
        Check.refused("until: next number", y, INDEX, () -> y.until(1));
    }

    private static void foresee() {
        PommelTows x = new PommelTows();
        x.setFlake(0, 0);
        x.setFlake(1, 2);
        x.setFlake(4, 3);
        x.run(0, 9);
        x.run(0, 2);
        x.run(1, 3);
        Villages.standing(x, 9, 10, 0);
        Villages.standing(x, 5, 3, 1);
        Villages.standing(x, 5, 60, 1);
        x.skier(1, 9);
        x.wax(2, 1);
        for (int hours : new int[] {1, 2, 5, 13, 60}) {
            long before = x.digest();
            int[] seen = new int[9];
            for (int what = 0; what < 9; what++) {
                seen[what] = x.foresee(hours, what);
            }
            Check.same("foresee: changes nothing", x.digest(), before);
            x.pass(hours);
            for (int what = 0; what < 9; what++) {
                Check.same("foresee " + hours + ", " + what, seen[what], x.count(what));
            }
        }
        for (int hours : new int[] {0, 61, -1, LOWEST, HIGHEST}) {
            Check.refused("foresee: hours " + hours, x, ARGUMENT, () -> x.foresee(hours, 0));
            Check.refused("foresee: both " + hours, x, ARGUMENT, () -> x.foresee(hours, 9));
        }
        for (int what : new int[] {-1, 9, LOWEST, HIGHEST}) {
            Check.refused("foresee: what " + what, x, INDEX, () -> x.foresee(1, what));
        }
    }

    private static void advise() {
        for (int flake = 0; flake < 4; flake++) {
            PommelTows x = Villages.ofFlake(flake);
            x.run(0, 1);
            Villages.standing(x, 1, 1, 0);
            long before = x.digest();
            Check.same("advise: the flake's own", x.advise(0, 12), flake);
            Check.same("advise: changes nothing", x.digest(), before);
        }
        PommelTows y = new PommelTows();
        y.skier(1, 0);
        Check.same("advise: at no tow", y.advise(0, 5), 0);
        y.setFlake(0, 3);
        y.setFlake(1, 0);
        y.setFlake(2, 0);
        y.run(0, 1);
        Villages.standing(y, 1, 60, 0);
        Check.same("advise: 1 hour", y.advise(1, 1), 3);
        Check.same("advise: 2 hours, all the same", y.advise(1, 2), 0);
        y.setFlake(1, 2);
        y.setFlake(2, 2);
        Check.same("advise: 3 hours", y.advise(1, 3), 2);
        y.setFlake(2, 0);
        y.setFlake(1, 3);
        y.setFlake(0, 1);
        Check.same("advise: of several the smallest", y.advise(1, 2), 1);
        PommelTows z = Villages.ofFlake(3);
        z.run(1, 1);
        Villages.standing(z, 1, 60, 0);
        Check.same("advise: no run at the tow", z.advise(0, 12), 0);
        PommelTows w = new PommelTows();
        w.run(0, 9);
        w.run(0, 9);
        Villages.standing(w, 9, 60, 0);
        w.pass(31);
        for (int hour = 0; hour < 6; hour++) {
            w.setFlake(hour, 3);
        }
        Check.same("advise: 992 points, held for each wax", w.advise(0, 1), 0);
        w.pass(1);
        Check.same("advise: 999 points", w.told(0, 4), 999);
        Check.same("advise: no more to win", w.advise(0, 12), 0);
        for (int skier : new int[] {-1, 2, LOWEST, HIGHEST}) {
            Check.refused("advise: skier " + skier, y, INDEX, () -> y.advise(skier, 5));
            Check.refused("advise: both " + skier, y, INDEX, () -> y.advise(skier, 0));
        }
        for (int number : new int[] {0, 13, -1, LOWEST, HIGHEST}) {
            Check.refused("advise: hours " + number, y, ARGUMENT, () -> y.advise(1, number));
        }
        adviseAgainstAnOldWax();
    }

    /** The old layer is gone in the trial, and the trial of one wax leaves nothing to the next. */
    private static void adviseAgainstAnOldWax() {
        PommelTows x = new PommelTows();
        x.run(0, 1);
        Villages.standing(x, 1, 12, 0);
        x.wax(0, 3);
        x.pass(9);
        Check.same("advise: a worn layer", x.told(0, 3), 1);
        Check.same("advise: one coin", x.told(0, 1), 1);
        Check.same("advise: for nothing", x.advise(0, 12), 1);
        Check.same("advise: the old wax stays", x.told(0, 2), 3);
        Check.same("advise: the old layer stays", x.told(0, 3), 1);
        PommelTows y = Villages.ofFlake(3);
        y.run(0, 1);
        Villages.standing(y, 1, 60, 0);
        y.setFlake(0, 2);
        y.pass(1);
        Check.same("advise: 12 hours on a layer of 10", y.advise(0, 12), 3);
    }

    private static void mean() {
        PommelTows x = new PommelTows();
        Check.sameDouble("mean: nobody", x.mean(), 0.0);
        x.run(0, 2);
        Villages.standing(x, 1, 5, 0);
        Check.sameDouble("mean: no points", x.mean(), 0.0);
        x.pass(1);
        Check.sameDouble("mean: one", x.mean(), 3.0);
        x.skier(1, 1);
        Check.sameDouble("mean: two", x.mean(), 1.5);
        x.skier(1, 1);
        x.pass(1);
        x.skier(1, 1);
        x.skier(1, 1);
        x.skier(1, 1);
        x.skier(1, 1);
        Check.sameDouble("mean: seven", x.mean(), 6.0 / 7);
    }

    private static void digest() {
        PommelTows x = new PommelTows();
        Check.same("digest: new", x.digest(), digestOf(x));
        x.setFlake(3, 2);
        Check.same("digest: flake", x.digest(), digestOf(x));
        x.setFlake(3, 1);
        x.run(0, 4);
        x.run(1, 9);
        for (int i = 0; i < 5; i++) {
            Villages.standing(x, i + 1, 3 * i, i % 2);
        }
        x.wax(4, 2);
        for (int hours : new int[] {1, 7}) {
            x.pass(hours);
            Check.same("digest", x.digest(), digestOf(x));
        }
        x.join(1, 2);
        x.join(0, 2);
        Check.same("digest: queue", x.digest(), digestOf(x));
        long before = x.digest();
        x.join(1, 2);
        Check.holds("digest: the order in a queue counts", x.digest() != before);
        Check.same("digest: queue", x.digest(), digestOf(x));
    }

    private static long digestOf(PommelTows x) {
        long d = 1481;
        for (int what = 0; what < 9; what++) {
            d = d * 31 + x.count(what);
        }
        for (int hour = 0; hour < 6; hour++) {
            int flake = x.setFlake(hour, 0);
            x.setFlake(hour, flake);
            d = d * 31 + flake;
        }
        for (int run = 0; run < x.count(3); run++) {
            for (int what = 0; what < 5; what++) {
                d = d * 31 + x.about(run, what);
            }
        }
        for (int skier = 0; skier < x.count(4); skier++) {
            for (int what = 0; what < 7; what++) {
                d = d * 31 + x.told(skier, what);
            }
        }
        for (int tow = 0; tow < 3; tow++) {
            for (int what = 0; what < 3; what++) {
                d = d * 31 + x.tow(tow, what);
            }
            for (int place = 0; place < x.tow(tow, 1); place++) {
                d = d * 31 + x.stands(tow, place);
            }
        }
        return d;
    }

    /** With as many runs and skiers as there can be, and all in one queue. */
    private static void fullVillage() {
        PommelTows x = new PommelTows();
        x.setFlake(0, 0);
        x.setPommels(2, 4);
        for (int run = 0; run < 6; run++) {
            x.run(2, run + 1);
        }
        for (int skier = 0; skier < 8; skier++) {
            Villages.standing(x, skier + 1, 9, 2);
        }
        Check.same("full: until", x.until(7), 2);
        Check.same("full: foresee", x.foresee(3, 6), 12);
        Check.same("full: advise", x.advise(7, 12), 1);
        Check.same("full: pass", x.pass(1), 4);
        Check.same("full: choice", x.choice(7, 2), 5);
        Check.same("full: flagged", x.count(5), 0);
        Check.same("full: snow on the last", x.about(5, 2), 34);
        queue("full: queue", x, 2, 4, 5, 6, 7, 0, 1, 2, 3);
        Check.same("full: leave", x.leave(7) ? 1 : 0, 1);
        queue("full: queue of seven", x, 2, 4, 5, 6, 0, 1, 2, 3);
        Check.same("full: digest", x.digest(), digestOf(x));
        Check.same("full: all rides", x.pass(60), 8 * 9 - 4 - 9);
        Check.refused("full: run", x, STATE, () -> x.run(2, 1));
        Check.refused("full: skier", x, STATE, () -> x.skier(1, 1));
    }

    private static void objectsStandAlone() {
        PommelTows x = new PommelTows();
        PommelTows y = new PommelTows();
        long before = y.digest();
        x.run(0, 5);
        x.setFlake(0, 0);
        x.setPommels(0, 4);
        Villages.standing(x, 5, 5, 0);
        x.pass(1);
        x.foresee(5, 0);
        Check.same("another object is as it was", y.digest(), before);
    }
}
