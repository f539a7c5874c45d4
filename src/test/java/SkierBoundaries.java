/** Tests of the sentences of promises 7 to 10 that name a boundary. */
final class SkierBoundaries {
    private static final Class<IndexOutOfBoundsException> INDEX = Check.INDEX;
    private static final Class<IllegalArgumentException> ARGUMENT = Check.ARGUMENT;
    private static final Class<IllegalStateException> STATE = Check.STATE;

    private SkierBoundaries() {
    }

    static void all() {
        skier();
        wax();
        join();
        leave();
    }

    private static void skier() {
        Sentence.test("Promise 7", "Returns the number.", () -> {
            PommelTows x = new PommelTows();
            Check.same("the first", x.skier(9, 60), 0);
            for (int skier = 1; skier <= 6; skier++) {
                x.skier(1, 0);
            }
            Check.same("the last that there is room for", x.skier(9, 60), 7);
            Check.same("the skill", x.told(7, 0), 9);
            Check.same("the coins", x.told(7, 1), 60);
        });
        Sentence.test("Promise 7", "A new skier, without wax, at no tow.", () -> {
            PommelTows x = Villages.busy(2, 7);
            Check.same("number", x.skier(9, 60), 7);
            int[] due = {9, 60, -1, 0, 0, 0, -1};
            for (int what = 0; what < due.length; what++) {
                Check.same("told " + what, x.told(7, what), due[what]);
            }
            Check.same("skiers in queues", x.count(7), 7);
        });
        Sentence.test("Promise 7",
                "Throws `IllegalArgumentException` if skill is not 1 to 9, or coins is not 0 to 60", () -> {
                    for (int skill : Villages.beside(1, 9)) {
                        refusedSkier("skill " + skill, skill, 0);
                        refusedSkier("skill " + skill, skill, 60);
                        refusedSkier("skill and coins, skill " + skill, skill, 61);
                    }
                    for (int coins : Villages.beside(0, 60)) {
                        refusedSkier("coins " + coins, 1, coins);
                        refusedSkier("coins " + coins, 9, coins);
                    }
                    Check.accepted("the least", PommelTows::new, x -> x.skier(1, 0));
                    Check.accepted("the most", PommelTows::new, x -> x.skier(9, 60));
                });
        Sentence.test("Promise 7", "Throws `IllegalStateException` if there are 8", () -> {
            for (int skiers = 0; skiers <= 7; skiers++) {
                PommelTows x = Villages.busy(3, skiers);
                Check.same("the number of one more than " + skiers, x.skier(5, 5), skiers);
                Check.same("skiers", x.count(4), skiers + 1);
            }
            Check.refused("a ninth", () -> Villages.busy(6, 8), STATE, x -> x.skier(1, 0));
            Check.refused("a ninth", () -> Villages.busy(0, 8), STATE, x -> x.skier(9, 60));
            PommelTows x = Villages.busy(6, 8);
            x.leave(7);
            x.pass(60);
            Check.refused("a ninth, with empty queues", x, STATE, () -> x.skier(1, 0));
            Check.refused("a ninth, once more", x, STATE, () -> x.skier(1, 0));
        });
    }

    private static void refusedSkier(String what, int skill, int coins) {
        Check.refused(what, PommelTows::new, ARGUMENT, x -> x.skier(skill, coins));
        Check.refused(what, () -> Villages.busy(3, 7), ARGUMENT, x -> x.skier(skill, coins));
        Check.refused(what + ", with 8 skiers", () -> Villages.busy(6, 8), ARGUMENT, x -> x.skier(skill, coins));
    }

    private static PommelTows skierOf(int coins) {
        PommelTows x = Villages.ofDepth(30, 1);
        x.skier(1, coins);
        return x;
    }

    private static void wax() {
        Sentence.test("Promise 8", "in a layer of 10, in the place of the old one", () -> {
            PommelTows x = skierOf(60);
            x.join(0, 0);
            x.wax(0, 0);
            Check.same("on none: layer", x.told(0, 3), 10);
            x.wax(0, 3);
            Check.same("on a full layer: layer", x.told(0, 3), 10);
            Check.same("on a full layer: wax", x.told(0, 2), 3);
            x.pass(9);
            Check.same("worn", x.told(0, 3), 1);
            x.wax(0, 1);
            Check.same("on a layer of 1: layer", x.told(0, 3), 10);
            Check.same("on a layer of 1: wax", x.told(0, 2), 1);
            x.pass(10);
            Check.same("worn off", x.told(0, 3), 0);
            x.wax(0, 1);
            Check.same("on a layer of 0: layer", x.told(0, 3), 10);
            Check.same("on a layer of 0: wax", x.told(0, 2), 1);
        });
        Sentence.test("Promise 8", "the skier pays 2 coins to the village", () -> {
            for (int coins : new int[] {2, 3, 4, 60}) {
                PommelTows x = skierOf(coins);
                Check.same("coins left of " + coins, x.wax(0, 3), coins - 2);
                Check.same("coins told", x.told(0, 1), coins - 2);
                Check.same("coins of the village", x.count(2), 2);
            }
        });
        Sentence.test("Promise 8", "Returns the coins that the skier has left.", () -> {
            PommelTows x = Villages.busy(0, 7);
            x.skier(1, 60);
            for (int left = 58; left >= 0; left -= 2) {
                Check.same("the last skier", x.wax(7, left % 4), left);
            }
            Check.same("told", x.told(7, 1), 0);
        });
        Sentence.test("Promise 8", "Throws `IndexOutOfBoundsException` if there is no such skier", () -> {
            Villages.onlySkiers((x, skier) -> x.wax(skier, 0));
            for (int skier : Villages.beside(0, 7)) {
                Check.refused("with a wrong wax, skier " + skier, () -> Villages.busy(6, 8), INDEX,
                        x -> x.wax(skier, 4));
            }
        });
        Sentence.test("Promise 8", "Throws `IllegalArgumentException` if wax is not 0 to 3", () -> {
            for (int wax : Villages.beside(0, 3)) {
                for (int coins : new int[] {0, 1, 2, 60}) {
                    Check.refused("wax " + wax + " for one of " + coins, () -> skierOf(coins), ARGUMENT,
                            x -> x.wax(0, wax));
                }
                Check.refused("wax " + wax, () -> Villages.busy(6, 8), ARGUMENT, x -> x.wax(7, wax));
            }
            Check.accepted("wax 0", () -> skierOf(2), x -> x.wax(0, 0));
            Check.accepted("wax 3", () -> skierOf(2), x -> x.wax(0, 3));
        });
        Sentence.test("Promise 8", "Throws `IllegalStateException` if the skier has fewer than 2 coins", () -> {
            for (int wax = 0; wax <= 3; wax++) {
                int flake = wax;
                Check.refused("0 coins", () -> skierOf(0), STATE, x -> x.wax(0, flake));
                Check.refused("1 coin", () -> skierOf(1), STATE, x -> x.wax(0, flake));
                Check.accepted("2 coins", () -> skierOf(2), x -> x.wax(0, flake));
            }
            PommelTows x = skierOf(5);
            Check.same("3 are left", x.wax(0, 0), 3);
            Check.same("1 is left", x.wax(0, 1), 1);
            Check.refused("a third time", x, STATE, () -> x.wax(0, 2));
            Check.same("the wax stays", x.told(0, 2), 1);
            Check.same("the coin stays", x.told(0, 1), 1);
            PommelTows y = skierOf(4);
            Check.same("2 are left", y.wax(0, 0), 2);
            Check.same("0 are left", y.wax(0, 1), 0);
            Check.refused("a third time", y, STATE, () -> y.wax(0, 2));
        });
    }

    /** All eight skiers stand at a tow, by their numbers. */
    private static PommelTows fullQueue(int tow) {
        PommelTows x = new PommelTows();
        Villages.queueOf(x, tow, 1, 5, 5, 5, 5, 5, 5, 5, 5);
        return x;
    }

    private static void join() {
        Sentence.test("Promise 9", "out of the queue where this one stood (also of the same tow)",
                SkierBoundaries::joinAgain);
        Sentence.test("Promise 9", "Sends a skier to the end of the queue of a tow", () -> {
            for (int waiting = 0; waiting <= 7; waiting++) {
                PommelTows x = new PommelTows();
                x.skier(1, 5);
                for (int skier = 1; skier <= waiting; skier++) {
                    Villages.standing(x, 1, 5, 0);
                }
                x.join(0, 0);
                Check.same("behind " + waiting, x.stands(0, waiting), 0);
                Check.same("in the queue", x.tow(0, 1), waiting + 1);
            }
        });
        Sentence.test("Promise 9", "Returns the place in the queue, from 0.", () -> {
            PommelTows x = new PommelTows();
            for (int skier = 0; skier < 8; skier++) {
                x.skier(1, 5);
                Check.same("place in a queue of " + skier, x.join(skier, 2), skier);
                Check.same("stands there", x.stands(2, skier), skier);
            }
            for (int skier = 0; skier < 8; skier++) {
                Check.same("place at another tow", x.join(skier, 0), skier);
            }
            Villages.queueIs("left by all", x, 2);
            Villages.queueIs("joined by all", x, 0, 0, 1, 2, 3, 4, 5, 6, 7);
        });
        Sentence.test("Promise 9",
                "Throws `IndexOutOfBoundsException` if there is no such skier, or no such tow", () -> {
                    Villages.onlySkiers((x, skier) -> x.join(skier, 0));
                    Villages.onlyTows((x, tow) -> x.join(0, tow));
                    for (int tow : Villages.beside(0, 2)) {
                        Check.refused("both, tow " + tow, () -> Villages.busy(6, 8), INDEX, x -> x.join(8, tow));
                        Check.refused("one at no tow, tow " + tow, () -> skierOf(5), INDEX, x -> x.join(0, tow));
                    }
                });
    }

    private static void joinAgain() {
        PommelTows one = new PommelTows();
        Villages.standing(one, 1, 5, 1);
        Check.same("the only one", one.join(0, 1), 0);
        Villages.queueIs("the only one", one, 1, 0);
        PommelTows first = fullQueue(1);
        Check.same("the first of all", first.join(0, 1), 7);
        Villages.queueIs("the first of all", first, 1, 1, 2, 3, 4, 5, 6, 7, 0);
        PommelTows second = fullQueue(1);
        Check.same("the second of all", second.join(1, 1), 7);
        Villages.queueIs("the second of all", second, 1, 0, 2, 3, 4, 5, 6, 7, 1);
        PommelTows last = fullQueue(1);
        Check.same("the last of all", last.join(7, 1), 7);
        Villages.queueIs("the last of all", last, 1, 0, 1, 2, 3, 4, 5, 6, 7);
        PommelTows other = fullQueue(1);
        Check.same("the first, to an empty queue", other.join(0, 0), 0);
        Check.same("the last, behind the first", other.join(7, 0), 1);
        Check.same("one between, to another empty queue", other.join(3, 2), 0);
        Villages.queueIs("those who stay", other, 1, 1, 2, 4, 5, 6);
        Villages.queueIs("those who went", other, 0, 0, 7);
        Villages.queueIs("the one who went", other, 2, 3);
        Check.same("in queues", other.count(7), 8);
    }

    private static void leave() {
        Sentence.test("Promise 10", "Returns whether this one stood in any.", () -> {
            PommelTows x = new PommelTows();
            x.skier(1, 5);
            Check.holds("new, at no tow", !x.leave(0));
            for (int tow = 0; tow <= 2; tow++) {
                x.join(0, tow);
                Check.holds("at tow " + tow, x.leave(0));
                Check.holds("no more at tow " + tow, !x.leave(0));
                Check.same("told", x.told(0, 6), -1);
                Villages.queueIs("empty", x, tow);
            }
            Villages.standing(x, 1, 0, 0);
            x.pass(1);
            Check.holds("left for want of a coin", !x.leave(1));
        });
        Sentence.test("Promise 10", "Has a skier leave the queue.", () -> {
            PommelTows x = fullQueue(2);
            Check.holds("the first", x.leave(0));
            Villages.queueIs("without the first", x, 2, 1, 2, 3, 4, 5, 6, 7);
            Check.holds("the last", x.leave(7));
            Villages.queueIs("without the last", x, 2, 1, 2, 3, 4, 5, 6);
            Check.holds("one between", x.leave(3));
            Villages.queueIs("without one between", x, 2, 1, 2, 4, 5, 6);
            for (int skier : new int[] {1, 2, 4, 5}) {
                Check.holds("the first", x.leave(skier));
            }
            Villages.queueIs("one is left", x, 2, 6);
            Check.holds("the only one", x.leave(6));
            Villages.queueIs("none is left", x, 2);
            Check.same("in queues", x.count(7), 0);
        });
        Sentence.test("Promise 10", "Throws `IndexOutOfBoundsException` if there is no such skier", () ->
            Villages.onlySkiers(PommelTows::leave));
    }
}
