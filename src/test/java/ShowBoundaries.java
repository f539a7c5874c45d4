/** Tests of the sentences of promises 11 to 16 that name a boundary. */
final class ShowBoundaries {
    private static final Class<IndexOutOfBoundsException> INDEX = Check.INDEX;

    private ShowBoundaries() {
    }

    static void all() {
        about();
        told();
        tow();
        stands();
        choice();
        count();
    }

    private static void about() {
        Sentence.test("Promise 11", "`what`: 0 its tow, 1 its slope, 2 how deep it is, 3 1 if it is flagged, else 0, "
                + "4 how often it was skied in all", () -> {
                    PommelTows x = Villages.ofDepth(34, 1, 9);
                    x.run(2, 5);
                    figures("a new run, at the last tow", x, 2, 2, 5, 30, 0, 0);
                    figures("a flagged run", x, 1, 0, 9, 34, 1, 0);
                    Villages.standing(x, 1, 60, 0);
                    x.pass(60);
                    figures("a run skied as often as can be", x, 0, 0, 1, 4, 1, 30);
                });
        Sentence.test("Promise 11",
                "Throws `IndexOutOfBoundsException` if there is no such run, or what is not 0 to 4", () -> {
                    Villages.onlyRuns(runs -> Villages.busy(runs, 3), (x, run) -> x.about(run, 0));
                    Villages.onlyWhat(4, (x, what) -> x.about(5, what));
                    Check.refused("both", () -> Villages.busy(6, 8), INDEX, x -> x.about(6, 5));
                });
    }

    private static void figures(String what, PommelTows x, int run, int... due) {
        for (int i = 0; i < due.length; i++) {
            Check.same(what + ": about " + i, x.about(run, i), due[i]);
        }
    }

    private static void told() {
        Sentence.test("Promise 12", "`what`: 0 the skill, 1 coins, 2 the wax, -1 with a layer of 0, 3 its layer, "
                + "4 points, 5 rides in all, 6 the tow in whose queue this one stands, -1 for none", () -> {
                    PommelTows x = Villages.ofDepth(30, 9);
                    x.skier(9, 60);
                    tellsOf("a new one", x, 9, 60, -1, 0, 0, 0, -1);
                    x.wax(0, 0);
                    tellsOf("with wax 0", x, 9, 58, 0, 10, 0, 0, -1);
                    x.join(0, 0);
                    tellsOf("at tow 0", x, 9, 58, 0, 10, 0, 0, 0);
                    x.pass(9);
                    tellsOf("with a layer of 1", x, 9, 49, 0, 1, 9 * 38, 9, 0);
                    x.pass(1);
                    tellsOf("with a layer of 0", x, 9, 48, -1, 0, 10 * 38, 10, 0);
                    x.leave(0);
                    tellsOf("at no tow again", x, 9, 48, -1, 0, 10 * 38, 10, -1);
                });
        Sentence.test("Promise 12",
                "Throws `IndexOutOfBoundsException` if there is no such skier, or what is not 0 to 6", () -> {
                    Villages.onlySkiers((x, skier) -> x.told(skier, 6));
                    Villages.onlyWhat(6, (x, what) -> x.told(7, what));
                    Check.refused("both", () -> Villages.busy(6, 8), INDEX, x -> x.told(8, 7));
                });
    }

    private static void tellsOf(String what, PommelTows x, int... due) {
        for (int i = 0; i < due.length; i++) {
            Check.same(what + ": told " + i, x.told(0, i), due[i]);
        }
    }

    private static void tow() {
        Sentence.test("Promise 13", "`what`: 0 its pommels, 1 skiers in its queue, 2 how often it pulled somebody in all",
                () -> {
                    PommelTows x = new PommelTows();
                    isTow("new", x, 2, 2, 0, 0);
                    x.setPommels(2, 4);
                    Villages.queueOf(x, 2, 1, 60, 60, 60, 60, 60, 60, 60, 60);
                    isTow("with a full queue", x, 2, 4, 8, 0);
                    x.pass(60);
                    isTow("behind 60 hours", x, 2, 4, 8, 240);
                    x.pass(60);
                    isTow("behind the last coins", x, 2, 4, 8, 480);
                    x.pass(1);
                    isTow("with an empty queue", x, 2, 4, 0, 480);
                    isTow("the tow beside", x, 1, 2, 0, 0);
                });
        Sentence.test("Promise 13",
                "Throws `IndexOutOfBoundsException` if there is no such tow, or what is not 0 to 2", () -> {
                    Villages.onlyTows((x, tow) -> x.tow(tow, 0));
                    Villages.onlyWhat(2, (x, what) -> x.tow(2, what));
                    Check.refused("both", () -> Villages.busy(6, 8), INDEX, x -> x.tow(3, 3));
                });
    }

    private static void isTow(String what, PommelTows x, int tow, int... due) {
        for (int i = 0; i < due.length; i++) {
            Check.same(what + ": tow " + i, x.tow(tow, i), due[i]);
        }
    }

    /** So many skiers stand at tow 1, and the others of eight at tow 0. */
    private static PommelTows waiting(int number) {
        PommelTows x = new PommelTows();
        for (int skier = 0; skier < 8; skier++) {
            Villages.standing(x, 1, 5, skier < number ? 1 : 0);
        }
        return x;
    }

    /** One was never at a tow, one has left it. */
    private static PommelTows atNoTow() {
        PommelTows x = new PommelTows();
        x.skier(1, 5);
        Villages.standing(x, 1, 5, 0);
        x.leave(1);
        return x;
    }

    private static void stands() {
        Sentence.test("Promise 14", "Returns the skier who stands there.", () -> {
            PommelTows x = waiting(8);
            x.join(0, 1);
            Check.same("the first place", x.stands(1, 0), 1);
            Check.same("the last place", x.stands(1, 7), 0);
        });
        Sentence.test("Promise 14", "a place in its queue, from 0", () -> {
            for (int waiting = 0; waiting <= 8; waiting++) {
                PommelTows x = waiting(waiting);
                for (int place = 0; place < 8; place++) {
                    int behind = place - waiting;
                    int got = behind < 0 ? x.stands(1, place) : x.stands(0, behind);
                    Check.same("place " + place + " of " + waiting, got, place);
                }
            }
        });
        Sentence.test("Promise 14",
                "Throws `IndexOutOfBoundsException` if there is no such tow, or nobody stands there", () -> {
                    Villages.onlyTows((x, tow) -> {
                        if (tow == 2) {
                            x.join(0, 2);
                        }
                        x.stands(tow, 0);
                    });
                    for (int size : new int[] {0, 1, 7, 8}) {
                        for (int place : Villages.beside(0, size - 1)) {
                            Check.refused("place " + place + " of " + size, () -> waiting(size), INDEX,
                                    x -> x.stands(1, place));
                        }
                    }
                    Check.refused("both", () -> waiting(8), INDEX, x -> x.stands(3, 8));
                    for (int tow : Villages.beside(0, 2)) {
                        Check.refused("skiers at no tow, tow " + tow, ShowBoundaries::atNoTow, INDEX,
                                x -> x.stands(tow, 0));
                    }
                    Check.refused("an empty queue", PommelTows::new, INDEX, x -> x.stands(2, 0));
                });
    }

    private static void choice() {
        Sentence.test("Promise 15", "whether this one stands there or not; -1 if there is none.", () -> {
            PommelTows x = new PommelTows();
            x.skier(9, 0);
            for (int tow = 0; tow <= 2; tow++) {
                Check.same("no runs", x.choice(0, tow), -1);
            }
            x.run(2, 9);
            for (int tow = -1; tow <= 2; tow++) {
                if (tow >= 0) {
                    x.join(0, tow);
                }
                Check.same("none, from " + tow, x.choice(0, 0), -1);
                Check.same("none, from " + tow, x.choice(0, 1), -1);
                Check.same("run 0, from " + tow, x.choice(0, 2), 0);
            }
            for (int run = 1; run < 6; run++) {
                x.run(0, run);
            }
            Check.same("the last run", x.choice(0, 0), 5);
        });
        Sentence.test("Promise 15",
                "Throws `IndexOutOfBoundsException` if there is no such skier, or no such tow", () -> {
                    Villages.onlySkiers((x, skier) -> x.choice(skier, 0));
                    Villages.onlyTows((x, tow) -> x.choice(0, tow));
                    Check.refused("both", () -> Villages.busy(6, 8), INDEX, x -> x.choice(8, 3));
                });
    }

    private static void count() {
        Sentence.test("Promise 16", "`what`: 0 the hour (the one that comes), 1 its flake, 2 coins of the village, "
                + "3 runs, 4 skiers, 5 runs that are flagged, 6 rides in all, 7 skiers who stand in queues, "
                + "8 the points of all skiers, added", ShowBoundaries::counts);
        Sentence.test("Promise 16", "Throws `IndexOutOfBoundsException` if what is not 0 to 8", () -> {
            Villages.onlyWhat(8, PommelTows::count);
            for (int what : Villages.beside(0, 8)) {
                Check.refused("an empty village, what " + what, PommelTows::new, INDEX, x -> x.count(what));
            }
        });
    }

    private static void counts() {
        PommelTows x = new PommelTows();
        countsAre("an empty village", x, 0, 1, 0, 0, 0, 0, 0, 0, 0);
        x.setFlake(0, 3);
        x.setFlake(5, 2);
        for (int run = 0; run < 6; run++) {
            x.run(0, 9);
        }
        for (int skier = 0; skier < 8; skier++) {
            x.skier(9, 60);
        }
        countsAre("a full village, nobody at a tow", x, 0, 3, 0, 6, 8, 0, 0, 0, 0);
        for (int skier = 0; skier < 8; skier++) {
            x.join(skier, skier % 3);
        }
        countsAre("a full village, all at tows", x, 0, 3, 0, 6, 8, 0, 0, 8, 0);
        x.pass(5);
        countsAre("the last hour of the table", x, 5, 2, 30, 6, 8, 0, 30, 8, 10 * 32);
        x.pass(1);
        countsAre("the first hour again", x, 6, 3, 36, 6, 8, 0, 36, 8, 12 * 32);
        Villages.setTable(x, Villages.NEW);
        x.pass(2);
        countsAre("all runs but the one that is skied are flagged", x, 8, 0, 48, 6, 8, 5, 48, 8, 16 * 32);
        for (int skier = 0; skier < 8; skier++) {
            x.leave(skier);
        }
        x.pass(60);
        countsAre("all runs are flagged, nobody at a tow", x, 68, 0, 48, 6, 8, 6, 48, 0, 16 * 32);
    }

    private static void countsAre(String what, PommelTows x, int... due) {
        for (int i = 0; i < due.length; i++) {
            Check.same(what + ": count " + i, x.count(i), due[i]);
        }
    }
}
