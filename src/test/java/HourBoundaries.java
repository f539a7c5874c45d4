import java.util.Arrays;

/** Tests of the sentences that name a boundary of how an hour goes, step by step. */
final class HourBoundaries {
    private static final String TERMS = "Terms";

    private HourBoundaries() {
    }

    static void all() {
        snow();
        pulling();
        skiingDown();
        glide();
        Sentence.test(TERMS, "3. The hour is 1 greater.", () -> {
            PommelTows x = new PommelTows();
            for (int hour = 0; hour < 14; hour++) {
                Check.same("the hour that comes", x.count(0), hour);
                x.pass(1);
            }
        });
    }

    private static void snow() {
        Sentence.test(TERMS, "Each run is deeper by 4 in an hour with the flake new", () -> {
            int[] before = {0, 1, 30, 85, 86, 87, 89, 90};
            int[] behind = {4, 5, 34, 89, 90, 90, 90, 90};
            snowInAnHour(Villages.NEW, before, behind);
        });
        Sentence.test(TERMS, "by 0 with fine", () -> {
            int[] depths = {0, 1, 30, 89, 90};
            snowInAnHour(Villages.FINE, depths, depths);
        });
        Sentence.test(TERMS, "less deep by 2 with wet", () -> {
            int[] before = {90, 89, 3, 2, 1, 0};
            int[] behind = {88, 87, 1, 0, 0, 0};
            snowInAnHour(Villages.WET, before, behind);
        });
        Sentence.test(TERMS, "and by 1 with ice", () -> {
            int[] before = {90, 89, 2, 1, 0};
            int[] behind = {89, 88, 1, 0, 0};
            snowInAnHour(Villages.ICE, before, behind);
        });
        Sentence.test(TERMS, "(held at 0 and 90)", () -> {
            PommelTows x = Villages.ofDepth(30, 1, 2, 3, 4, 5, 6);
            Villages.setTable(x, Villages.NEW);
            x.pass(60);
            depthsAre("new for 60 hours", x, 90);
            Villages.setTable(x, Villages.WET);
            x.pass(1);
            depthsAre("wet for an hour behind them", x, 88);
            x.pass(60);
            depthsAre("wet for 61 hours", x, 0);
            Villages.setTable(x, Villages.NEW);
            x.pass(1);
            depthsAre("new for an hour behind them", x, 4);
        });
    }

    private static void snowInAnHour(int flake, int[] before, int[] behind) {
        for (int i = 0; i < before.length; i++) {
            PommelTows x = Villages.ofDepth(before[i], 1, 9);
            Villages.setTable(x, flake);
            x.pass(1);
            Check.same("run 0 of " + before[i] + " with flake " + flake, x.about(0, 2), behind[i]);
            Check.same("run 1 of " + before[i] + " with flake " + flake, x.about(1, 2), behind[i]);
        }
    }

    private static void depthsAre(String what, PommelTows x, int due) {
        for (int run = 0; run < 6; run++) {
            Check.same(what + ", run " + run, x.about(run, 2), due);
        }
    }

    private static void pulling() {
        Sentence.test(TERMS, "each once (who comes to the end in this hour no more)",
                HourBoundaries::eachOnce);
        Sentence.test(TERMS, "till as many were pulled as it has pommels", HourBoundaries::asManyAsPommels);
        Sentence.test(TERMS, "One without a coin leaves the queue, and is at no tow then",
                HourBoundaries::withoutACoin);
        Sentence.test(TERMS, "(whoever is not looked at stays)", HourBoundaries::notLookedAt);
        Sentence.test(TERMS, "leaves the front of the queue, pays 1 coin to the village, has ridden once more",
                HourBoundaries::theLastCoin);
        Sentence.test(TERMS, "stands at the end of the queue again", () -> {
            PommelTows x = new PommelTows();
            Villages.queueOf(x, 0, 1, 5);
            x.pass(1);
            Villages.queueIs("the only one", x, 0, 0);
            PommelTows y = new PommelTows();
            Villages.queueOf(y, 2, 1, 5, 5, 5, 5, 5, 5, 5, 5);
            y.pass(1);
            Villages.queueIs("the first two of a full queue", y, 2, 2, 3, 4, 5, 6, 7, 0, 1);
            y.pass(3);
            Villages.queueIs("all of a full queue", y, 2, 0, 1, 2, 3, 4, 5, 6, 7);
        });
    }

    private static void eachOnce() {
        for (int waiting = 0; waiting <= 4; waiting++) {
            PommelTows x = new PommelTows();
            x.setPommels(0, 4);
            for (int skier = 0; skier < waiting; skier++) {
                Villages.standing(x, 1, 5, 0);
            }
            Check.same("rides of " + waiting + " at 4 pommels", x.pass(1), waiting);
            for (int skier = 0; skier < waiting; skier++) {
                Check.same("rode once of " + waiting, x.told(skier, 5), 1);
                Check.same("place of " + skier + " of " + waiting, x.stands(0, skier), skier);
            }
        }
        PommelTows y = new PommelTows();
        y.setPommels(0, 4);
        Villages.queueOf(y, 0, 1, 1, 2);
        Check.same("rides", y.pass(1), 2);
        Villages.queueIs("the last coin is paid, but the one is looked at in the next hour only", y, 0, 0, 1);
        Check.same("rides in the next hour", y.pass(1), 1);
        Villages.queueIs("behind the next hour", y, 0, 1);
    }

    private static void asManyAsPommels() {
        int[] purses = {5, 5, 5, 5, 5, 5, 5, 5};
        for (int pommels = 1; pommels <= 4; pommels++) {
            for (int waiting : new int[] {pommels - 1, pommels, pommels + 1, 8}) {
                PommelTows x = new PommelTows();
                x.setPommels(1, pommels);
                Villages.queueOf(x, 1, 1, Arrays.copyOf(purses, waiting));
                int due = Math.min(pommels, waiting);
                String what = waiting + " at " + pommels + " pommels";
                Check.same(what + ": rides", x.pass(1), due);
                Check.same(what + ": pulled in all", x.tow(1, 2), due);
                for (int skier = 0; skier < waiting; skier++) {
                    Check.same(what + ": rides of " + skier, x.told(skier, 5), skier < due ? 1 : 0);
                }
            }
        }
    }

    private static void withoutACoin() {
        PommelTows x = new PommelTows();
        Villages.queueOf(x, 0, 1, 0);
        Check.same("alone: rides", x.pass(1), 0);
        Check.same("alone: at no tow", x.told(0, 6), -1);
        Check.same("alone: rides in all", x.told(0, 5), 0);
        Villages.queueIs("alone: the queue", x, 0);
        PommelTows all = new PommelTows();
        Villages.queueOf(all, 0, 1, 0, 0, 0, 0, 0, 0, 0, 0);
        Check.same("all of a full queue: rides", all.pass(1), 0);
        Check.same("all of a full queue: in queues", all.count(7), 0);
        PommelTows last = new PommelTows();
        Villages.queueOf(last, 0, 1, 0, 0, 0, 0, 0, 0, 0, 1);
        last.setPommels(0, 1);
        Check.same("all but the last: rides", last.pass(1), 1);
        Villages.queueIs("all but the last: the queue", last, 0, 7);
        PommelTows first = new PommelTows();
        Villages.queueOf(first, 0, 1, 1, 0);
        Check.same("behind one with a coin: rides", first.pass(1), 1);
        Villages.queueIs("behind one with a coin: the queue", first, 0, 0);
        Check.same("behind one with a coin: at no tow", first.told(1, 6), -1);
    }

    private static void notLookedAt() {
        for (int pommels = 1; pommels <= 4; pommels++) {
            PommelTows x = new PommelTows();
            x.setPommels(2, pommels);
            for (int skier = 0; skier < pommels; skier++) {
                Villages.standing(x, 1, 1, 2);
            }
            int behind = Villages.standing(x, 1, 0, 2);
            Check.same("rides of " + pommels, x.pass(1), pommels);
            Check.same("without a coin, just behind the last pulled: stays", x.told(behind, 6), 2);
            Check.same("is the first then", x.stands(2, 0), behind);
            x.pass(1);
            Check.same("leaves in the next hour", x.told(behind, 6), -1);
        }
        PommelTows y = new PommelTows();
        Villages.queueOf(y, 2, 1, 1, 0, 1, 0, 1);
        y.pass(1);
        Check.same("without a coin, just ahead of the last pulled: leaves", y.told(1, 6), -1);
        Villages.queueIs("the queue", y, 2, 3, 4, 0, 2);
    }

    private static void theLastCoin() {
        for (int coins = 1; coins <= 2; coins++) {
            PommelTows x = new PommelTows();
            Villages.queueOf(x, 0, 1, coins);
            x.pass(1);
            Check.same("coins of one of " + coins, x.told(0, 1), coins - 1);
            Check.same("coins of the village", x.count(2), 1);
            Check.same("rides", x.told(0, 5), 1);
            x.pass(1);
            Check.same("rides of one of " + coins, x.told(0, 5), coins);
            Check.same("tow of one of " + coins, x.told(0, 6), coins == 1 ? -1 : 0);
            x.pass(1);
            Check.same("no coins are left", x.told(0, 1), 0);
            Check.same("all coins are the village's", x.count(2), coins);
        }
        PommelTows most = new PommelTows();
        Villages.queueOf(most, 0, 1, 60);
        Check.same("60 coins for 60 rides", most.pass(60), 60);
        Check.same("none is left", most.told(0, 1), 0);
        Villages.queueIs("stands there all the same", most, 0, 0);
        Check.same("the 61st hour", most.pass(1), 0);
        Villages.queueIs("has left", most, 0);
    }

    private static void skiingDown() {
        Sentence.test(TERMS, "as all is then (behind step 1, and behind those who skied ahead in this hour)",
                HourBoundaries::asAllIsThen);
        Sentence.test(TERMS, "without any, the skier comes down beside the tow, without points",
                HourBoundaries::besideTheTow);
        Sentence.test(TERMS, "the wax stays as it is", HourBoundaries::theWaxStays);
        Sentence.test(TERMS, "it is a ride all the same", () -> {
            PommelTows x = new PommelTows();
            Villages.queueOf(x, 1, 1, 1);
            Check.same("rides", x.pass(1), 1);
            Check.same("of the skier", x.told(0, 5), 1);
            Check.same("of the tow", x.tow(1, 2), 1);
            Check.same("in all", x.count(6), 1);
            Check.same("paid", x.count(2), 1);
        });
        Sentence.test(TERMS, "the points are more by 3 * the slope, and the skill, and the glide (held at 0 and 999)",
                HourBoundaries::points);
        Sentence.test(TERMS, "the run is 1 less deep, and was skied once more", HourBoundaries::lessDeep);
    }

    /** Somebody rides in an hour with this flake; the run is as deep as given behind it. */
    private static void ride(int depth, int slope, int flake, boolean skis, int behind) {
        PommelTows x = Villages.ofDepth(depth, slope);
        Villages.setTable(x, flake);
        Villages.standing(x, 9, 1, 0);
        x.pass(1);
        String what = depth + " deep, slope " + slope + ", flake " + flake;
        Check.same(what + ": skied", x.about(0, 4), skis ? 1 : 0);
        Check.same(what + ": depth behind the hour", x.about(0, 2), behind);
    }

    private static void asAllIsThen() {
        ride(4, 9, Villages.FINE, false, 4);
        ride(5, 9, Villages.FINE, true, 4);
        ride(0, 9, Villages.NEW, false, 4);
        ride(1, 9, Villages.NEW, true, 4);
        ride(5, 9, Villages.ICE, false, 4);
        ride(6, 9, Villages.ICE, true, 4);
        ride(6, 9, Villages.WET, false, 4);
        ride(7, 9, Villages.WET, true, 4);
        ride(29, 9, Villages.NEW, true, 32);
        ride(30, 9, Villages.NEW, false, 34);
        ride(34, 9, Villages.FINE, false, 34);
        ride(34, 9, Villages.ICE, true, 32);
        ride(35, 9, Villages.ICE, false, 34);
        ride(51, 6, Villages.ICE, false, 50);
        ride(50, 6, Villages.ICE, true, 48);
        PommelTows x = Villages.ofDepth(6, 9);
        x.setPommels(0, 4);
        Villages.queueOf(x, 0, 9, 1, 1, 1, 1);
        x.pass(1);
        Check.same("6 deep: skied by two of four", x.about(0, 4), 2);
        for (int skier = 0; skier < 4; skier++) {
            Check.same("6 deep: points of " + skier, x.told(skier, 4), skier < 2 ? 32 : 0);
        }
        PommelTows y = Villages.ofDepth(5, 9, 8);
        y.setPommels(0, 4);
        Villages.queueOf(y, 0, 9, 1, 1, 1);
        y.pass(1);
        Check.same("two runs 5 deep: points of the first", y.told(0, 4), 32);
        Check.same("two runs 5 deep: points of the second", y.told(1, 4), 29);
        Check.same("two runs 5 deep: points of the third", y.told(2, 4), 0);
    }

    private static void besideTheTow() {
        PommelTows x = Villages.ofDepth(30, 3, 5);
        Villages.queueOf(x, 0, 1, 9);
        x.pass(1);
        Check.same("too steep: points", x.told(0, 4), 0);
        Check.same("too steep: depth", x.about(0, 2), 30);
        Check.same("too steep: skied", x.about(0, 4), 0);
        Villages.queueIs("too steep", x, 0, 0);
        x.run(0, 2);
        x.pass(1);
        Check.same("not too steep: points", x.told(0, 4), 3);
        x.join(0, 1);
        x.pass(1);
        Check.same("no runs: points", x.told(0, 4), 3);
        Check.same("no runs: rides", x.told(0, 5), 3);
        Villages.queueIs("no runs", x, 1, 0);
        PommelTows y = Villages.of961Points();
        y.join(0, 2);
        y.pass(1);
        Check.same("no runs: points stay", y.told(0, 4), 961);
    }

    private static void theWaxStays() {
        PommelTows x = Villages.ofDepth(30, 1);
        x.skier(1, 60);
        x.wax(0, 3);
        x.join(0, 1);
        x.pass(1);
        Check.same("a full layer", x.told(0, 3), 10);
        x.join(0, 0);
        x.pass(9);
        Check.same("worn", x.told(0, 3), 1);
        x.join(0, 1);
        x.pass(2);
        Check.same("a layer of 1", x.told(0, 3), 1);
        Check.same("its wax", x.told(0, 2), 3);
        x.join(0, 0);
        x.pass(1);
        Check.same("worn off", x.told(0, 3), 0);
        x.join(0, 1);
        x.pass(1);
        Check.same("a layer of 0", x.told(0, 3), 0);
        Check.same("no wax", x.told(0, 2), -1);
    }

    private static void points() {
        for (int skill = 1; skill <= 9; skill++) {
            for (int slope = 1; slope <= Math.min(9, skill + 1); slope++) {
                PommelTows x = Villages.ofDepth(30, slope);
                Villages.queueOf(x, 0, skill, 4, 4);
                x.wax(1, Villages.FINE);
                x.pass(1);
                String what = "skill " + skill + ", slope " + slope;
                Check.same(what + ", without wax", x.told(0, 4), 3 * slope + skill - 4);
                Check.same(what + ", with wax", x.told(1, 4), 3 * slope + skill + 4);
            }
        }
        for (int start = 0; start <= 1; start++) {
            PommelTows x = Villages.ofDepth(30, 9, 9);
            Villages.queueOf(x, 0, 9, 60);
            x.pass(30);
            // 960, and then 38 or 40
            x.wax(0, start == 0 ? Villages.WET : Villages.FINE);
            x.pass(1);
            Check.same("960 and " + (38 + 2 * start), x.told(0, 4), start == 0 ? 998 : 999);
            x.pass(1);
            Check.same("held at 999", x.told(0, 4), 999);
            Check.same("held, but skied all the same", x.about(0, 4) + x.about(1, 4), 32);
        }
    }

    private static void lessDeep() {
        PommelTows x = Villages.ofDepth(30, 1);
        Villages.queueOf(x, 0, 1, 60);
        for (int depth = 29; depth >= 4; depth--) {
            x.pass(1);
            Check.same("depth", x.about(0, 2), depth);
            Check.same("skied", x.about(0, 4), 30 - depth);
            Check.same("flagged", x.about(0, 3), depth < 5 ? 1 : 0);
        }
        x.pass(1);
        Check.same("depth of a flagged run", x.about(0, 2), 4);
        Check.same("skied no more", x.about(0, 4), 26);
        PommelTows y = Villages.ofDepth(90, 3);
        Villages.queueOf(y, 0, 9, 60);
        y.setFlake(y.count(0) % 6, Villages.NEW);
        y.pass(1);
        Check.same("90 deep, held, and 1 less", y.about(0, 2), 89);
    }

    private static void glide() {
        Sentence.test(TERMS, "Glide: with a layer of 0 it is -4", () -> {
            for (int flake = 0; flake <= 3; flake++) {
                Check.same("never waxed, flake " + flake, pointsOfARide(flake, -1), 9 - 4);
            }
            PommelTows x = Villages.ofDepth(30, 1);
            Villages.queueOf(x, 0, 6, 60);
            x.wax(0, Villages.FINE);
            x.pass(10);
            Check.same("ten on a layer of 10", x.told(0, 4), 10 * (9 + 4));
            x.pass(1);
            Check.same("worn off", x.told(0, 4), 10 * (9 + 4) + 9 - 4);
        });
        Sentence.test(TERMS,
                "otherwise it is 4 less 2 * how much the numbers of the wax and of the flake of the hour differ",
                () -> {
                    int[] due = {4, 2, 0, -2};
                    for (int flake = 0; flake <= 3; flake++) {
                        for (int wax = 0; wax <= 3; wax++) {
                            Check.same("wax " + wax + " on flake " + flake, pointsOfARide(flake, wax),
                                    9 + due[Math.abs(wax - flake)]);
                        }
                    }
                });
        Sentence.test(TERMS, "the layer is 1 less then (a layer of 1 counts still)", () -> {
            PommelTows x = Villages.ofDepth(30, 1);
            Villages.queueOf(x, 0, 6, 60);
            x.wax(0, Villages.FINE);
            x.pass(8);
            Check.same("a layer of 2", x.told(0, 3), 2);
            x.pass(1);
            Check.same("a layer of 2 counted", x.told(0, 4), 9 * 13);
            Check.same("a layer of 1", x.told(0, 3), 1);
            x.pass(1);
            Check.same("a layer of 1 counted", x.told(0, 4), 10 * 13);
            Check.same("a layer of 0", x.told(0, 3), 0);
            x.pass(1);
            Check.same("a layer of 0 counted not", x.told(0, 4), 10 * 13 + 5);
            Check.same("no less than 0", x.told(0, 3), 0);
        });
    }

    /** A ride of skill 6 on slope 1, which is 9 without the glide; a wax of -1 is none. */
    private static int pointsOfARide(int flake, int wax) {
        PommelTows x = Villages.ofDepth(30, 1);
        Villages.setTable(x, flake);
        Villages.queueOf(x, 0, 6, 9);
        if (wax >= 0) {
            x.wax(0, wax);
        }
        x.pass(1);
        return x.told(0, 4);
    }
}
