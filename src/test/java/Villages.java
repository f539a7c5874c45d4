/** Villages as the tests want them, by a few calls each, and numbers that are not in a range. */
final class Villages {
    static final int NEW = 0;
    static final int FINE = 1;
    static final int WET = 2;
    static final int ICE = 3;

    private Villages() {
    }

    /** Numbers just beside a range, and the farthest ones. */
    static int[] beside(int least, int most) {
        return new int[] {least - 1, most + 1, Check.LOWEST, Check.HIGHEST};
    }

    static void setTable(PommelTows x, int... flakes) {
        for (int hour = 0; hour < 6; hour++) {
            x.setFlake(hour, flakes[hour % flakes.length]);
        }
    }

    /** A village in which all hours have one flake. */
    static PommelTows ofFlake(int flake) {
        PommelTows x = new PommelTows();
        setTable(x, flake);
        return x;
    }

    /** Adds a skier who stands at a tow. */
    static int standing(PommelTows x, int skill, int coins, int tow) {
        int skier = x.skier(skill, coins);
        x.join(skier, tow);
        return skier;
    }

    /** Adds skiers of a skill to the queue of a tow, so many as purses. */
    static void queueOf(PommelTows x, int tow, int skill, int... coins) {
        for (int purse : coins) {
            standing(x, skill, purse, tow);
        }
    }

    /** A village whose runs are at tow 0, of these slopes, all just so deep; its hours are fine from now on. */
    static PommelTows ofDepth(int depth, int... slopes) {
        PommelTows x = new PommelTows();
        for (int slope : slopes) {
            x.run(0, slope);
        }
        int hoursOfNew = depth <= 30 ? 0 : (depth - 30 + 3) / 4;
        int hoursOfIce = Math.min(90, 30 + 4 * hoursOfNew) - depth;
        pass(x, hoursOfNew, NEW);
        pass(x, hoursOfIce, ICE);
        setTable(x, FINE);
        return x;
    }

    private static void pass(PommelTows x, int hours, int flake) {
        if (hours > 0) {
            setTable(x, flake);
            x.pass(hours);
        }
    }

    /** Gives the village just so many coins, by a new skier who is at no tow then, and has none left. */
    static void giveCoins(PommelTows x, int coins) {
        int payer = x.skier(1, coins);
        for (int i = 0; i < coins / 2; i++) {
            x.wax(payer, 0);
        }
        if (coins % 2 == 1) {
            x.join(payer, 2);
            x.pass(1);
            x.leave(payer);
        }
    }

    /** A village in which much has happened, so that any change shows. */
    static PommelTows busy(int runs, int skiers) {
        PommelTows x = new PommelTows();
        setTable(x, FINE, NEW, ICE, FINE, WET, FINE);
        x.setPommels(1, 1);
        for (int run = 0; run < runs; run++) {
            x.run(run % 3, 9 - run);
        }
        for (int skier = 0; skier < skiers; skier++) {
            standing(x, 9 - skier, 12 + skier, skier % 2);
            if (skier % 2 == 1) {
                x.wax(skier, skier / 2);
            }
        }
        x.pass(3);
        return x;
    }

    /** A village whose runs all can be blasted. */
    static PommelTows snowedIn(int runs) {
        PommelTows x = ofFlake(NEW);
        for (int run = 0; run < runs; run++) {
            x.run(run % 3, 9);
        }
        x.pass(1);
        return x;
    }

    /** A skier of skill 8, 961 points and 29 coins, at tow 0 with runs of slope 9; a run of slope 1 is at tow 1. */
    static PommelTows of961Points() {
        PommelTows x = new PommelTows();
        x.run(0, 9);
        x.run(0, 9);
        x.run(1, 1);
        standing(x, 8, 60, 0);
        x.pass(31);
        return x;
    }

    /** The queue of a tow is just this, by each call that tells of it. */
    static void queueIs(String what, PommelTows x, int tow, int... due) {
        Check.same(what + ", length of the queue", x.tow(tow, 1), due.length);
        for (int place = 0; place < due.length; place++) {
            Check.same(what + ", place " + place, x.stands(tow, place), due[place]);
            Check.same(what + ", tow of " + due[place], x.told(due[place], 6), tow);
        }
        Check.refused(what + ", behind the end", x, Check.INDEX, () -> x.stands(tow, due.length));
    }

    interface Numbered {
        void go(PommelTows x, int number);
    }

    interface Sized {
        PommelTows of(int number);
    }

    static void onlyTows(Numbered call) {
        Check.Maker maker = () -> busy(4, 5);
        for (int tow : beside(0, 2)) {
            Check.refused("tow " + tow, maker, Check.INDEX, x -> call.go(x, tow));
        }
        for (int tow = 0; tow <= 2; tow++) {
            int number = tow;
            Check.accepted("tow " + tow, maker, x -> call.go(x, number));
        }
    }

    static void onlyRuns(Sized villageOfRuns, Numbered call) {
        only("run", villageOfRuns, new int[] {0, 1, 5, 6}, call);
    }

    static void onlySkiers(Numbered call) {
        only("skier", skiers -> busy(6, skiers), new int[] {0, 1, 7, 8}, call);
    }

    private static void only(String kind, Sized village, int[] sizes, Numbered call) {
        for (int size : sizes) {
            Check.Maker maker = () -> village.of(size);
            for (int number : beside(0, size - 1)) {
                Check.refused(kind + " " + number + " of " + size, maker, Check.INDEX, x -> call.go(x, number));
            }
            if (size > 0) {
                Check.accepted("the first " + kind + " of " + size, maker, x -> call.go(x, 0));
                Check.accepted("the last " + kind + " of " + size, maker, x -> call.go(x, size - 1));
            }
        }
    }

    /** What runs from 0 to a number, just beside it and far off it is refused. */
    static void onlyWhat(int most, Numbered call) {
        Check.Maker maker = () -> busy(6, 8);
        for (int what : beside(0, most)) {
            Check.refused("what " + what, maker, Check.INDEX, x -> call.go(x, what));
        }
        Check.accepted("what 0", maker, x -> call.go(x, 0));
        Check.accepted("what " + most, maker, x -> call.go(x, most));
    }
}
