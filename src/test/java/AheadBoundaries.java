import java.math.BigInteger;
import java.util.ArrayList;
import java.util.List;

/** Tests of the sentences of promises 17 to 22 that name a boundary. */
final class AheadBoundaries {
    private static final Class<IndexOutOfBoundsException> INDEX = Check.INDEX;
    private static final Class<IllegalArgumentException> ARGUMENT = Check.ARGUMENT;

    private AheadBoundaries() {
    }

    static void all() {
        pass();
        until();
        foresee();
        advise();
        Sentence.test("Promise 21", "Returns the mean of the points of all skiers; 0 without any.",
                AheadBoundaries::mean);
        digest();
    }

    private static void pass() {
        Sentence.test("Promise 17", "Lets hours go by.", () -> {
            PommelTows atOnce = Villages.busy(6, 8);
            PommelTows oneByOne = Villages.busy(6, 8);
            atOnce.pass(60);
            for (int hour = 0; hour < 60; hour++) {
                oneByOne.pass(1);
            }
            Look.alike("60 hours at once", atOnce, oneByOne);
        });
        Sentence.test("Promise 17", "Returns how many rides there are in them.", () -> {
            PommelTows empty = new PommelTows();
            Check.same("an empty village", empty.pass(60), 0);
            PommelTows x = new PommelTows();
            x.setPommels(0, 1);
            Villages.queueOf(x, 0, 1, 2);
            Villages.queueOf(x, 1, 1, 0);
            Villages.queueOf(x, 2, 1, 60, 60);
            x.skier(1, 60);
            Check.same("the first hour", x.pass(1), 3);
            Check.same("two hours more", x.pass(2), 1 + 4);
            Check.same("57 hours more", x.pass(57), 2 * 57);
            Check.same("none is left", x.pass(60), 0);
            Check.same("in all", x.count(6), 2 + 120);
            PommelTows most = new PommelTows();
            for (int tow = 0; tow <= 2; tow++) {
                most.setPommels(tow, 4);
            }
            for (int skier = 0; skier < 8; skier++) {
                Villages.standing(most, 1, 60, skier % 3);
            }
            Check.same("the most rides", most.pass(60), 8 * 60);
        });
        Sentence.test("Promise 17", "Throws `IllegalArgumentException` if hours is not 1 to 60", () -> {
            for (int hours : Villages.beside(1, 60)) {
                Check.refused("hours " + hours, PommelTows::new, ARGUMENT, x -> x.pass(hours));
                Check.refused("hours " + hours, () -> Villages.busy(6, 8), ARGUMENT, x -> x.pass(hours));
            }
            for (int hours : new int[] {1, 2, 59, 60}) {
                PommelTows x = new PommelTows();
                Villages.queueOf(x, 0, 1, 60);
                Check.same("rides of " + hours, x.pass(hours), hours);
                Check.same("hour behind " + hours, x.count(0), hours);
            }
        });
    }

    private static void until() {
        Sentence.test("Promise 18", "1 for the coming one, at most 90", AheadBoundaries::untilPlaces);
        Sentence.test("Promise 18", "(with or without a run)", () -> {
            PommelTows x = new PommelTows();
            x.run(0, 2);
            Villages.standing(x, 1, 1, 0);
            Villages.standing(x, 1, 1, 1);
            Check.same("with a run", x.until(0), 1);
            Check.same("without a run", x.until(1), 1);
        });
        Sentence.test("Promise 18", "-1 if not by then (nothing is changed).", AheadBoundaries::untilNever);
        Sentence.test("Promise 18", "Throws `IndexOutOfBoundsException` if there is no such skier", () ->
            Villages.onlySkiers(PommelTows::until));
    }

    /** The longest answer is 8, of the last one in a full queue: an answer of 90 or 91 there can't be. */
    private static void untilPlaces() {
        for (int pommels = 1; pommels <= 4; pommels++) {
            PommelTows x = new PommelTows();
            x.setPommels(2, pommels);
            Villages.queueOf(x, 2, 1, 1, 1, 1, 1, 1, 1, 1, 1);
            long before = x.digest();
            for (int skier = 0; skier < 8; skier++) {
                Check.same("place " + skier + " at " + pommels + " pommels", x.until(skier), skier / pommels + 1);
            }
            Check.same("nothing is changed", x.digest(), before);
            int due = (8 + pommels - 1) / pommels;
            for (int hours = 1; hours <= 8; hours++) {
                x.pass(1);
                Check.same("the last one at " + pommels + " pommels, rides behind " + hours, x.told(7, 5),
                        hours < due ? 0 : 1);
            }
        }
        // who has no coin takes no pommel, and is passed in the same hour
        PommelTows x = new PommelTows();
        x.setPommels(0, 1);
        Villages.queueOf(x, 0, 1, 0, 0, 0, 5, 0, 0, 0, 5);
        Check.same("behind three without a coin", x.until(3), 1);
        Check.same("the last of all", x.until(7), 2);
        x.pass(1);
        Check.same("at the end again", x.until(3), 2);
        Check.same("one further", x.until(7), 1);
    }

    private static void untilNever() {
        PommelTows x = new PommelTows();
        x.setPommels(1, 1);
        Villages.queueOf(x, 1, 1, 0, 1, 1);
        x.skier(1, 60);
        long before = x.digest();
        Check.same("without a coin", x.until(0), -1);
        Check.same("with a coin", x.until(1), 1);
        Check.same("behind", x.until(2), 2);
        Check.same("at no tow", x.until(3), -1);
        Check.same("nothing is changed", x.digest(), before);
        x.pass(1);
        Check.same("the last coin is paid", x.until(1), -1);
        Check.same("still in the queue", x.told(1, 6), 1);
        Check.same("the next", x.until(2), 1);
        x.pass(60);
        Check.same("all coins are paid", x.until(2), -1);
        x.join(3, 1);
        Check.same("at a tow now", x.until(3), 1);
    }

    private static void foresee() {
        Sentence.test("Promise 19", "`hours`: how many, 1 to 60", () -> {
            for (int hours : new int[] {1, 2, 6, 59, 60}) {
                foreseen("an empty village", PommelTows::new, hours);
                foreseen("a busy village", () -> Villages.busy(3, 4), hours);
                foreseen("a full village", () -> Villages.busy(6, 8), hours);
            }
        });
        Sentence.test("Promise 19", "`what`: 0 to 8 as count() has it", () -> {
            PommelTows x = new PommelTows();
            Villages.setTable(x, Villages.NEW, Villages.WET);
            x.run(0, 9);
            Villages.queueOf(x, 0, 9, 1, 0);
            int[] due = {1, 2, 1, 1, 2, 1, 1, 1, 0};
            int[] dueLater = {60, 0, 1, 1, 2, 1, 1, 0, 0};
            for (int what = 0; what <= 8; what++) {
                Check.same("behind 1 hour, what " + what, x.foresee(1, what), due[what]);
                Check.same("behind 60 hours, what " + what, x.foresee(60, what), dueLater[what]);
            }
        });
        Sentence.test("Promise 19", "(nothing is changed)", () -> {
            PommelTows x = Villages.busy(6, 8);
            for (int what = 0; what <= 8; what++) {
                x.foresee(1, what);
                x.foresee(60, what);
            }
            Look.alike("behind foresee", x, Villages.busy(6, 8));
        });
        Sentence.test("Promise 19", "Throws `IllegalArgumentException` if hours is not 1 to 60", () -> {
            for (int hours : Villages.beside(1, 60)) {
                Check.refused("hours " + hours, () -> Villages.busy(6, 8), ARGUMENT, x -> x.foresee(hours, 0));
                Check.refused("hours " + hours, PommelTows::new, ARGUMENT, x -> x.foresee(hours, 8));
                Check.refused("with a wrong what, hours " + hours, () -> Villages.busy(6, 8), ARGUMENT,
                        x -> x.foresee(hours, -1));
                Check.refused("with a wrong what, hours " + hours, () -> Villages.busy(6, 8), ARGUMENT,
                        x -> x.foresee(hours, 9));
            }
        });
        Sentence.test("Promise 19", "Throws `IndexOutOfBoundsException` if what is not 0 to 8", () -> {
            Villages.onlyWhat(8, (x, what) -> x.foresee(1, what));
            Villages.onlyWhat(8, (x, what) -> x.foresee(60, what));
        });
    }

    private static void foreseen(String what, Check.Maker maker, int hours) {
        PommelTows x = maker.make();
        PommelTows later = maker.make();
        later.pass(hours);
        for (int number = 0; number <= 8; number++) {
            Check.same(what + " behind " + hours + ", what " + number, x.foresee(hours, number), later.count(number));
        }
    }

    private static void advise() {
        Sentence.test("Promise 20", "for nothing", () -> {
            for (int coins = 0; coins <= 3; coins++) {
                PommelTows x = Villages.ofDepth(30, 1);
                Villages.setTable(x, Villages.ICE);
                Villages.standing(x, 1, coins, 0);
                Check.same("with " + coins + " coins", x.advise(0, 12), coins == 0 ? 0 : 3);
                Check.same("the coins stay", x.told(0, 1), coins);
                Check.same("the village has none", x.count(2), 0);
            }
        });
        Sentence.test("Promise 20", "so that this one has the most points behind so many hours",
                AheadBoundaries::adviseHours);
        Sentence.test("Promise 20", "of the four with a layer of 10 each", AheadBoundaries::adviseLayer);
        Sentence.test("Promise 20", "of several the one with the smallest number", AheadBoundaries::adviseTies);
        Sentence.test("Promise 20", "(nothing is changed)", () -> {
            PommelTows x = Villages.busy(6, 8);
            for (int skier = 0; skier < 8; skier++) {
                x.advise(skier, 1);
                x.advise(skier, 12);
            }
            Look.alike("behind advise", x, Villages.busy(6, 8));
        });
        Sentence.test("Promise 20", "Throws `IndexOutOfBoundsException` if there is no such skier", () -> {
            Villages.onlySkiers((x, skier) -> x.advise(skier, 1));
            for (int skier : Villages.beside(0, 7)) {
                Check.refused("with wrong hours, skier " + skier, () -> Villages.busy(6, 8), INDEX,
                        x -> x.advise(skier, 0));
                Check.refused("with wrong hours, skier " + skier, () -> Villages.busy(6, 8), INDEX,
                        x -> x.advise(skier, 13));
            }
        });
        Sentence.test("Promise 20", "Throws `IllegalArgumentException` if hours is not 1 to 12", () -> {
            for (int hours : Villages.beside(1, 12)) {
                Check.refused("hours " + hours, () -> Villages.busy(6, 8), ARGUMENT, x -> x.advise(0, hours));
                Check.refused("hours " + hours, () -> Villages.busy(0, 1), ARGUMENT, x -> x.advise(0, hours));
            }
            Check.accepted("hours 1", () -> Villages.busy(6, 8), x -> x.advise(7, 1));
            Check.accepted("hours 12", () -> Villages.busy(6, 8), x -> x.advise(7, 12));
        });
    }

    /** One who rides each hour, on a run that stays open. */
    private static PommelTows rider(int... table) {
        PommelTows x = Villages.ofDepth(30, 1);
        Villages.setTable(x, table);
        Villages.standing(x, 1, 60, 0);
        return x;
    }

    private static void adviseHours() {
        for (int flake = 0; flake <= 3; flake++) {
            PommelTows x = rider(flake);
            Check.same("flake " + flake + ", 1 hour", x.advise(0, 1), flake);
            Check.same("flake " + flake + ", 12 hours", x.advise(0, 12), flake);
        }
        PommelTows x = rider(1, 3, 3, 0, 0, 0);
        int[] due = {1, 1, 3, 1, 1, 0};
        for (int hours = 1; hours <= 6; hours++) {
            Check.same(hours + " hours", x.advise(0, hours), due[hours - 1]);
        }
        PommelTows y = rider(0, 3, 0, 0, 0, 0);
        y.setPommels(0, 1);
        y.skier(1, 60);
        y.leave(0);
        y.join(1, 0);
        y.join(0, 0);
        Check.same("not pulled in 1 hour", y.advise(0, 1), 0);
        Check.same("pulled in the second of 2 hours", y.advise(0, 2), 3);
        Check.same("the one ahead", y.advise(1, 2), 0);
    }

    private static void adviseLayer() {
        // flakes 0 1 1 0 1 0 0 1 1 0 1 0: even behind ten rides, and only then
        PommelTows x = rider(0, 1, 1, 0, 1, 0);
        Check.same("9 hours", x.advise(0, 9), 1);
        Check.same("10 hours", x.advise(0, 10), 0);
        Check.same("11 hours, the last ride without wax", x.advise(0, 11), 0);
        Check.same("12 hours, the last two without wax", x.advise(0, 12), 0);
        // flakes 0 1 1 1 0 0 twice: flake 1 leads by one behind ten rides, and no more behind twelve
        PommelTows y = rider(0, 1, 1, 1, 0, 0);
        Check.same("10 hours of the other", y.advise(0, 10), 1);
        Check.same("12 hours of the other", y.advise(0, 12), 1);
        PommelTows z = rider(0, 1, 1, 0, 1, 0);
        z.wax(0, 3);
        Check.same("an old layer of 10 does not count", z.advise(0, 9), 1);
        z.pass(9);
        Check.same("an old layer of 1 is left", z.told(0, 3), 1);
        Villages.setTable(z, Villages.WET);
        Check.same("but all four have 10", z.advise(0, 12), 2);
        Check.same("the old layer of 1 stays", z.told(0, 3), 1);
    }

    private static void adviseTies() {
        Check.same("1 and 2 as good", rider(1, 2).advise(0, 2), 1);
        Check.same("all four as good", rider(0, 3).advise(0, 2), 0);
        Check.same("2 and 3 as good", rider(3, 2).advise(0, 12), 2);
        PommelTows none = Villages.ofFlake(Villages.ICE);
        none.skier(9, 60);
        Check.same("at no tow", none.advise(0, 12), 0);
        none.join(0, 0);
        Check.same("no run", none.advise(0, 12), 0);
        PommelTows held = Villages.of961Points();
        Villages.setTable(held, Villages.ICE);
        Check.same("961 points, one ride", held.advise(0, 1), 3);
        Check.same("961 points, two rides, 999 with each", held.advise(0, 2), 0);
        held.pass(2);
        Check.same("999 points", held.told(0, 4), 999);
        Check.same("no more to win", held.advise(0, 12), 0);
    }

    private static void mean() {
        PommelTows x = new PommelTows();
        Check.sameDouble("without any", x.mean(), 0.0);
        x.pass(60);
        Check.sameDouble("without any, later", x.mean(), 0.0);
        x.skier(1, 5);
        Check.sameDouble("one without points", x.mean(), 0.0);
        x.run(0, 2);
        x.join(0, 0);
        x.pass(1);
        Check.sameDouble("one with 3", x.mean(), 3.0);
        int[] skiers = {2, 3, 4, 5, 6, 7, 8};
        for (int number : skiers) {
            x.skier(1, 0);
            Check.sameDouble("3 of " + number, x.mean(), 3.0 / number);
        }
        PommelTows most = new PommelTows();
        for (int run = 0; run < 6; run++) {
            most.run(0, 9);
        }
        most.setPommels(0, 4);
        Villages.queueOf(most, 0, 9, 60, 60, 60, 60);
        most.pass(32);
        Check.sameDouble("four with 999", most.mean(), 999.0);
        Check.same("999 each, added", most.count(8), 4 * 999);
        most.skier(1, 0);
        Check.sameDouble("one more, without points", most.mean(), 4 * 999.0 / 5);
    }

    private static void digest() {
        Sentence.test("Promise 22", "A number d starts with 1481", () ->
            // no number comes behind 1481 in vain: an empty village has 9 + 6 + 3 * 3 of them
            Check.same("an empty village", new PommelTows().digest(),
                    digestOf(0, 1, 0, 0, 0, 0, 0, 0, 0, 1, 1, 1, 1, 1, 1, 2, 0, 0, 2, 0, 0, 2, 0, 0)));
        Sentence.test("Promise 22", "d becomes d * 31 + x, which wraps around as a 64-bit integer", () -> {
            PommelTows x = Villages.busy(6, 8);
            List<Integer> numbers = numbersOf(x, Villages.FINE, Villages.NEW, Villages.ICE, Villages.FINE,
                    Villages.WET, Villages.FINE);
            Check.same("a full village", x.digest(), digestOf(numbers));
            boolean positive = false;
            boolean negative = false;
            for (int hour = 0; hour < 40; hour++) {
                x.pass(1);
                positive |= x.digest() > 0;
                negative |= x.digest() < 0;
            }
            Check.holds("digests on both sides of 0", positive && negative);
        });
        Sentence.test("Promise 22", "for each run what about() tells, for each skier what told() tells", () -> {
            for (int runs : new int[] {0, 1, 6}) {
                for (int skiers : new int[] {0, 1, 8}) {
                    PommelTows x = Villages.busy(runs, skiers);
                    List<Integer> numbers = numbersOf(x, Villages.FINE, Villages.NEW, Villages.ICE, Villages.FINE,
                            Villages.WET, Villages.FINE);
                    Check.same(runs + " runs, " + skiers + " skiers", x.digest(), digestOf(numbers));
                }
            }
        });
        Sentence.test("Promise 22", "then the skiers in its queue, from the first one on", () -> {
            PommelTows x = new PommelTows();
            Villages.queueOf(x, 0, 1, 5, 5);
            Villages.queueOf(x, 2, 1, 5);
            x.skier(1, 5);
            for (int turn = 0; turn < 3; turn++) {
                Check.same("queues, turn " + turn, x.digest(), digestOf(numbersOf(x, 1, 1, 1, 1, 1, 1)));
                x.join(turn, 0);
            }
            for (int skier = 0; skier < 4; skier++) {
                x.leave(skier);
                Check.same("less one", x.digest(), digestOf(numbersOf(x, 1, 1, 1, 1, 1, 1)));
            }
        });
    }

    /** What the digest takes in, by the calls that tell it; the table is given. */
    private static List<Integer> numbersOf(PommelTows x, int... table) {
        List<Integer> numbers = new ArrayList<>();
        for (int what = 0; what <= 8; what++) {
            numbers.add(x.count(what));
        }
        for (int flake : table) {
            numbers.add(flake);
        }
        int runs = x.count(3);
        for (int run = 0; run < runs; run++) {
            for (int what = 0; what <= 4; what++) {
                numbers.add(x.about(run, what));
            }
        }
        int skiers = x.count(4);
        for (int skier = 0; skier < skiers; skier++) {
            for (int what = 0; what <= 6; what++) {
                numbers.add(x.told(skier, what));
            }
        }
        for (int tow = 0; tow <= 2; tow++) {
            for (int what = 0; what <= 2; what++) {
                numbers.add(x.tow(tow, what));
            }
            int waiting = x.tow(tow, 1);
            for (int place = 0; place < waiting; place++) {
                numbers.add(x.stands(tow, place));
            }
        }
        return numbers;
    }

    private static long digestOf(int... numbers) {
        List<Integer> list = new ArrayList<>();
        for (int number : numbers) {
            list.add(number);
        }
        return digestOf(list);
    }

    /** By numbers without a bound, cut to 64 bits at the end. */
    private static long digestOf(List<Integer> numbers) {
        BigInteger d = BigInteger.valueOf(1481);
        for (int number : numbers) {
            d = d.multiply(BigInteger.valueOf(31)).add(BigInteger.valueOf(number));
        }
        return d.longValue();
    }
}
