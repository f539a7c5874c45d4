/** Tests of the sentences of promises 1 to 6 that name a boundary. */
final class VillageBoundaries {
    private static final Class<IndexOutOfBoundsException> INDEX = Check.INDEX;
    private static final Class<IllegalArgumentException> ARGUMENT = Check.ARGUMENT;
    private static final Class<IllegalStateException> STATE = Check.STATE;

    private VillageBoundaries() {
    }

    static void all() {
        Sentence.test("Promise 1", "Creates a village without runs and skiers, in the hour 0.",
                VillageBoundaries::newVillage);
        run();
        setPommels();
        setFlake();
        cannon();
        blast();
    }

    private static void newVillage() {
        PommelTows x = new PommelTows();
        Check.same("hour", x.count(0), 0);
        Check.same("runs", x.count(3), 0);
        Check.same("skiers", x.count(4), 0);
        for (int what : new int[] {2, 5, 6, 7, 8}) {
            Check.same("count " + what, x.count(what), 0);
        }
        Check.Maker maker = PommelTows::new;
        Check.refused("run 0", maker, INDEX, village -> village.about(0, 0));
        Check.refused("cannon on run 0", maker, INDEX, village -> village.cannon(0));
        Check.refused("blast of run 0", maker, INDEX, village -> village.blast(0));
        Check.refused("skier 0", maker, INDEX, village -> village.told(0, 0));
        Check.refused("leave of skier 0", maker, INDEX, village -> village.leave(0));
        Check.refused("until of skier 0", maker, INDEX, village -> village.until(0));
        Check.refused("place 0", maker, INDEX, village -> village.stands(0, 0));
        Check.same("an hour of nobody", x.pass(1), 0);
        Check.same("60 hours of nobody", x.pass(60), 0);
    }

    private static void run() {
        Sentence.test("Promise 2", "Returns its number.", () -> {
            PommelTows x = new PommelTows();
            Check.same("the first", x.run(2, 9), 0);
            for (int run = 1; run <= 4; run++) {
                x.run(0, 1);
            }
            Check.same("the last that there is room for", x.run(2, 9), 5);
            Check.same("its tow", x.about(5, 0), 2);
        });
        Sentence.test("Promise 2", "Throws `IndexOutOfBoundsException` if there is no such tow", () -> {
            Villages.onlyTows((x, tow) -> x.run(tow, 5));
            for (int tow : Villages.beside(0, 2)) {
                Check.refused("with a wrong slope, tow " + tow, PommelTows::new, INDEX, x -> x.run(tow, 0));
                Check.refused("with 6 runs, tow " + tow, () -> Villages.busy(6, 8), INDEX, x -> x.run(tow, 5));
                Check.refused("with both, tow " + tow, () -> Villages.busy(6, 8), INDEX, x -> x.run(tow, 10));
            }
        });
        Sentence.test("Promise 2", "Throws `IllegalArgumentException` if slope is not 1 to 9", () -> {
            for (int slope : Villages.beside(1, 9)) {
                Check.refused("slope " + slope, PommelTows::new, ARGUMENT, x -> x.run(0, slope));
                Check.refused("slope " + slope, () -> Villages.busy(5, 3), ARGUMENT, x -> x.run(2, slope));
                Check.refused("with 6 runs, slope " + slope, () -> Villages.busy(6, 8), ARGUMENT,
                        x -> x.run(2, slope));
            }
            Check.accepted("slope 1", PommelTows::new, x -> x.run(0, 1));
            Check.accepted("slope 9", PommelTows::new, x -> x.run(0, 9));
        });
        Sentence.test("Promise 2", "Throws `IllegalStateException` if there are 6", () -> {
            for (int runs = 0; runs <= 5; runs++) {
                PommelTows x = Villages.busy(runs, 2);
                Check.same("the number of one more than " + runs, x.run(1, 1), runs);
                Check.same("runs", x.count(3), runs + 1);
            }
            Check.refused("a seventh", () -> Villages.busy(6, 8), STATE, x -> x.run(0, 1));
            Check.refused("a seventh", () -> Villages.busy(6, 0), STATE, x -> x.run(2, 9));
            PommelTows x = Villages.busy(6, 8);
            x.pass(60);
            Check.refused("a seventh in a later hour", x, STATE, () -> x.run(0, 1));
            Check.refused("a seventh, once more", x, STATE, () -> x.run(0, 1));
        });
    }

    private static void setPommels() {
        Sentence.test("Promise 3", "Returns how many it had.", () -> {
            for (int tow = 0; tow <= 2; tow++) {
                PommelTows x = new PommelTows();
                Check.same("at first, tow " + tow, x.setPommels(tow, 1), 2);
                Check.same("the fewest, tow " + tow, x.setPommels(tow, 4), 1);
                Check.same("the most, tow " + tow, x.setPommels(tow, 2), 4);
            }
        });
        Sentence.test("Promise 3", "Throws `IndexOutOfBoundsException` if there is no such tow", () -> {
            Villages.onlyTows((x, tow) -> x.setPommels(tow, 4));
            for (int tow : Villages.beside(0, 2)) {
                Check.refused("with wrong pommels, tow " + tow, PommelTows::new, INDEX, x -> x.setPommels(tow, 0));
                Check.refused("with wrong pommels, tow " + tow, PommelTows::new, INDEX, x -> x.setPommels(tow, 5));
            }
        });
        Sentence.test("Promise 3", "Throws `IllegalArgumentException` if pommels is not 1 to 4", () -> {
            for (int pommels : Villages.beside(1, 4)) {
                for (int tow = 0; tow <= 2; tow++) {
                    int ofTow = tow;
                    Check.refused("pommels " + pommels, () -> Villages.busy(6, 8), ARGUMENT,
                            x -> x.setPommels(ofTow, pommels));
                }
            }
            PommelTows x = new PommelTows();
            Check.same("1 behind 2", x.setPommels(0, 1), 2);
            Check.same("4 behind 1", x.setPommels(0, 4), 1);
            Check.same("4 behind 4", x.setPommels(0, 4), 4);
            Check.same("1 behind 4", x.setPommels(0, 1), 4);
            Check.same("has 1", x.tow(0, 0), 1);
        });
    }

    private static void setFlake() {
        Sentence.test("Promise 4", "an hour of the table, 0 to 5", () -> {
            for (int hour = 0; hour <= 5; hour++) {
                PommelTows x = new PommelTows();
                Check.same("the one before", x.setFlake(hour, 3), 1);
                for (int other = 0; other <= 6; other++) {
                    Check.same("hour " + hour + " set, flake of hour " + other, x.count(1),
                            other % 6 == hour ? 3 : 1);
                    x.pass(1);
                }
                Check.same("the one before", x.setFlake(hour, 0), 3);
            }
        });
        Sentence.test("Promise 4", "Throws `IndexOutOfBoundsException` if hour is not 0 to 5", () -> {
            for (int hour : Villages.beside(0, 5)) {
                Check.refused("hour " + hour, () -> Villages.busy(6, 8), INDEX, x -> x.setFlake(hour, 0));
                Check.refused("with a wrong flake, hour " + hour, () -> Villages.busy(6, 8), INDEX,
                        x -> x.setFlake(hour, -1));
            }
            // the hour that comes may be greater, the hours of the table are not
            PommelTows x = new PommelTows();
            x.pass(6);
            Check.refused("hour 6 in the hour 6", x, INDEX, () -> x.setFlake(6, 0));
            x.pass(1);
            Check.same("hour 1 in the hour 7", x.setFlake(1, 3), 1);
            Check.same("the flake of hour 7", x.count(1), 3);
        });
        Sentence.test("Promise 4", "Throws `IllegalArgumentException` if flake is not 0 to 3", () -> {
            for (int flake : Villages.beside(0, 3)) {
                for (int hour = 0; hour <= 5; hour++) {
                    int ofHour = hour;
                    Check.refused("flake " + flake, () -> Villages.busy(6, 8), ARGUMENT,
                            x -> x.setFlake(ofHour, flake));
                }
            }
            PommelTows x = new PommelTows();
            Check.same("0 behind 1", x.setFlake(5, 0), 1);
            Check.same("3 behind 0", x.setFlake(5, 3), 0);
            Check.same("3 behind 3", x.setFlake(5, 3), 3);
            Check.same("0 behind 3", x.setFlake(5, 0), 3);
        });
    }

    /** A run of slope 1, so deep, in a village of so many coins. */
    private static PommelTows forCannon(int depth, int coins) {
        PommelTows x = Villages.ofDepth(depth, 1);
        Villages.giveCoins(x, coins);
        return x;
    }

    private static void cannon() {
        Sentence.test("Promise 5", "Returns how deep it is then.", () -> {
            PommelTows x = Villages.busy(6, 4);
            Villages.giveCoins(x, 60);
            for (int run : new int[] {0, 5}) {
                int before = x.about(run, 2);
                Check.same("the first and the last run", x.cannon(run), before + 12);
                Check.same("told", x.about(run, 2), before + 12);
            }
            PommelTows high = forCannon(89, 3);
            Check.same("at most 90", high.cannon(0), 90);
        });
        Sentence.test("Promise 5", "for 3 coins of the village", () -> {
            for (int coins = 3; coins <= 7; coins++) {
                PommelTows x = forCannon(30, coins);
                Check.same("coins at first", x.count(2), coins);
                Check.same("depth", x.cannon(0), 42);
                Check.same("coins left of " + coins, x.count(2), coins - 3);
            }
        });
        Sentence.test("Promise 5", "it is 12 deeper, at most 90", () -> {
            int[] before = {0, 1, 4, 30, 77, 78, 79, 89};
            int[] behind = {12, 13, 16, 42, 89, 90, 90, 90};
            for (int i = 0; i < before.length; i++) {
                PommelTows x = forCannon(before[i], 5);
                Check.same("depth behind " + before[i], x.cannon(0), behind[i]);
                Check.same("depth told behind " + before[i], x.about(0, 2), behind[i]);
                Check.same("coins", x.count(2), 2);
            }
        });
        Sentence.test("Promise 5", "Throws `IndexOutOfBoundsException` if there is no such run", () -> {
            Villages.onlyRuns(VillageBoundaries::richVillage, PommelTows::cannon);
            for (int run : Villages.beside(0, 0)) {
                Check.refused("without coins, run " + run, () -> forCannon(30, 0), INDEX, x -> x.cannon(run));
                Check.refused("with run 0 90 deep, run " + run, () -> forCannon(90, 3), INDEX, x -> x.cannon(run));
            }
        });
        Sentence.test("Promise 5",
                "Throws `IllegalStateException` if the village has fewer than 3 coins, or the run is 90 deep",
                VillageBoundaries::cannonRefuses);
    }

    private static PommelTows richVillage(int runs) {
        PommelTows x = Villages.busy(runs, 4);
        Villages.giveCoins(x, 60);
        return x;
    }

    private static void cannonRefuses() {
        for (int coins = 0; coins <= 2; coins++) {
            int few = coins;
            Check.refused("with " + coins + " coins", () -> forCannon(30, few), STATE, x -> x.cannon(0));
            Check.refused("with " + coins + " coins, 90 deep", () -> forCannon(90, few), STATE, x -> x.cannon(0));
            Check.refused("with " + coins + " coins, 0 deep", () -> forCannon(0, few), STATE, x -> x.cannon(0));
        }
        Check.accepted("with 3 coins", () -> forCannon(30, 3), x -> x.cannon(0));
        for (int coins : new int[] {3, 4, 60}) {
            Check.refused("90 deep with " + coins + " coins", () -> forCannon(90, coins), STATE, x -> x.cannon(0));
        }
        Check.accepted("89 deep", () -> forCannon(89, 3), x -> x.cannon(0));
        PommelTows x = forCannon(78, 9);
        x.cannon(0);
        Check.refused("90 deep by the cannon", x, STATE, () -> x.cannon(0));
        x.run(0, 1);
        Check.same("another run", x.cannon(1), 42);
        Check.same("once more", x.cannon(1), 54);
        Check.refused("all 9 coins are spent", x, STATE, () -> x.cannon(1));
    }

    private static void blast() {
        Sentence.test("Promise 6", "it is as deep as half of before (cut) then", () -> {
            int[] depths = {34, 35, 66, 67, 89, 90};
            for (int depth : depths) {
                PommelTows x = Villages.ofDepth(depth, 9);
                int due = depth / 2;
                Check.same("less deep than " + depth, x.blast(0), depth - due);
                Check.same("half of " + depth, x.about(0, 2), due);
            }
        });
        Sentence.test("Promise 6", "Returns by how much less deep it is.", () -> {
            PommelTows x = Villages.ofDepth(90, 9, 4);
            Check.same("half of 90", x.blast(0), 45);
            Check.same("the bigger half of 45", x.blast(0), 23);
            Check.same("22 is left", x.about(0, 2), 22);
            Check.refused("22 * 9", x, STATE, () -> x.blast(0));
            Check.same("the other run", x.about(1, 2), 90);
        });
        Sentence.test("Promise 6", "Throws `IndexOutOfBoundsException` if there is no such run", () ->
            Villages.onlyRuns(Villages::snowedIn, PommelTows::blast));
        Sentence.test("Promise 6", "Throws `IllegalStateException` if how deep it is * its slope is less than 300",
                VillageBoundaries::blastRefuses);
    }

    private static void blastRefuses() {
        for (int slope = 1; slope <= 3; slope++) {
            int flat = slope;
            Check.refused("90 deep, slope " + slope, () -> Villages.ofDepth(90, flat), STATE, x -> x.blast(0));
        }
        for (int slope = 4; slope <= 9; slope++) {
            int enough = (300 + slope - 1) / slope;
            int steep = slope;
            Check.refused(enough - 1 + " deep, slope " + slope, () -> Villages.ofDepth(enough - 1, steep), STATE,
                    x -> x.blast(0));
            Check.accepted(enough + " deep, slope " + slope, () -> Villages.ofDepth(enough, steep),
                    x -> x.blast(0));
        }
        int[] slopes = {4, 5, 6};
        for (int slope : slopes) {
            PommelTows x = Villages.ofDepth(300 / slope, slope);
            Check.same("just 300, slope " + slope, x.blast(0), 300 / slope - 300 / slope / 2);
        }
        // a run is flagged with too little snow too, but that is no reason to blast it
        Check.refused("4 deep", () -> Villages.ofDepth(4, 9), STATE, x -> x.blast(0));
        Check.refused("0 deep", () -> Villages.ofDepth(0, 9), STATE, x -> x.blast(0));
        Check.refused("30 deep", () -> Villages.ofDepth(30, 9), STATE, x -> x.blast(0));
    }
}
