/** Tests of the sentences of "What it is" and "Terms" that name a boundary, but for the hour's. */
final class TermsBoundaries {
    private static final String TERMS = "Terms";

    private TermsBoundaries() {
    }

    static void all() {
        Sentence.test("What it is", "An object is used for at most 512 calls after it has been made",
                TermsBoundaries::lastCall);
        Sentence.test(TERMS, "/ is cut towards 0", TermsBoundaries::cut);
        Sentence.test(TERMS, "Time is told in hours, from 0.", TermsBoundaries::hours);
        Sentence.test(TERMS, "Four: new (0), fine (1), wet (2) and ice (3).", TermsBoundaries::flakes);
        Sentence.test(TERMS, "A table tells for each of 6 hours (the hour by the remainder of 6)",
                TermsBoundaries::remainder);
        Sentence.test(TERMS, "which flake it has (fine, at first)", TermsBoundaries::fineAtFirst);
        tows();
        runs();
        skiers();
        choice();
        Sentence.test(TERMS, "The village has no coins, at first.",
                () -> Check.same("coins", new PommelTows().count(2), 0));
        Sentence.test(TERMS, "A method that throws an exception changes nothing.",
                TermsBoundaries::refusedInARow);
        Sentence.test(TERMS, "If several exceptions apply, the one that is named first is thrown.",
                TermsBoundaries::firstException);
    }

    private static void tows() {
        Sentence.test(TERMS, "There are 3, 0 to 2", () -> {
            Villages.onlyTows((x, tow) -> x.tow(tow, 0));
            PommelTows x = new PommelTows();
            for (int tow = 0; tow <= 2; tow++) {
                Villages.standing(x, 1, 1, tow);
            }
            Check.same("rides at all tows", x.pass(1), 3);
        });
        Sentence.test(TERMS, "each has 1 to 4 pommels (2, at first)", TermsBoundaries::pommels);
        Sentence.test(TERMS, "a queue of skiers, the first one ahead of all others", TermsBoundaries::queues);
    }

    private static void runs() {
        Sentence.test(TERMS, "At most 6, numbered from 0 in the order of their coming",
                TermsBoundaries::sixRuns);
        Sentence.test(TERMS, "has a slope, 1 to 9", () -> {
            PommelTows x = Villages.ofDepth(30, 1, 2, 8, 9);
            int[] due = {1, 2, 8, 9};
            for (int run = 0; run < 4; run++) {
                Check.same("slope of " + run, x.about(run, 1), due[run]);
            }
            Check.refused("slope 0", x, Check.ARGUMENT, () -> x.run(0, 0));
            Check.refused("slope 10", x, Check.ARGUMENT, () -> x.run(0, 10));
        });
        Sentence.test(TERMS, "is 0 to 90 deep in snow (30, at first)", TermsBoundaries::depths);
        Sentence.test(TERMS, "A run is open, if it is 5 deep or more", TermsBoundaries::fiveDeep);
        Sentence.test(TERMS, "how deep it is * its slope is less than 300", TermsBoundaries::tooMuchSnow);
        Sentence.test(TERMS, "otherwise it is flagged", TermsBoundaries::flagged);
    }

    private static void skiers() {
        Sentence.test(TERMS, "At most 8, numbered likewise", TermsBoundaries::eightSkiers);
        Sentence.test(TERMS, "each has a skill, 1 to 9", () -> {
            PommelTows x = new PommelTows();
            int[] skills = {1, 2, 8, 9};
            for (int i = 0; i < 4; i++) {
                Check.same("number", x.skier(skills[i], 5), i);
                Check.same("skill", x.told(i, 0), skills[i]);
            }
            Check.refused("skill 0", x, Check.ARGUMENT, () -> x.skier(0, 5));
            Check.refused("skill 10", x, Check.ARGUMENT, () -> x.skier(10, 5));
        });
        Sentence.test(TERMS, "points (0 to 999; 0, at first)", TermsBoundaries::points);
        Sentence.test(TERMS, "stands in the queue of one tow, or of none (at first)", TermsBoundaries::oneQueue);
        Sentence.test(TERMS, "Each has a wax, of the number of a flake", () -> {
            PommelTows x = new PommelTows();
            x.skier(1, 8);
            for (int wax = 0; wax <= 3; wax++) {
                x.wax(0, wax);
                Check.same("wax", x.told(0, 2), wax);
            }
        });
        Sentence.test(TERMS, "in a layer of up to 10, or none (a layer of 0, at first)",
                TermsBoundaries::layers);
    }

    private static void choice() {
        Sentence.test(TERMS, "of the open runs of this tow whose slope is no more than the skill and 1",
                TermsBoundaries::slopeOfTheSkillAndOne);
        Sentence.test(TERMS, "the steepest one", () -> {
            PommelTows x = Villages.ofDepth(33, 5, 9, 7);
            x.skier(9, 0);
            Check.same("slope 9 is open", x.choice(0, 0), 1);
            x.setFlake(x.count(0) % 6, Villages.NEW);
            x.pass(1);
            Check.same("slope 9 is flagged, slope 7 is open", x.choice(0, 0), 2);
        });
        Sentence.test(TERMS, "of several the one with the smallest number", () -> {
            PommelTows x = Villages.ofDepth(30, 4, 6, 6, 6);
            Villages.standing(x, 5, 60, 0);
            Check.same("three as steep", x.choice(0, 0), 1);
            x.pass(26);
            Check.same("the first of them 4 deep", x.about(1, 2), 4);
            Check.same("the other two as steep", x.choice(0, 0), 2);
            x.pass(26);
            Check.same("the last of them", x.choice(0, 0), 3);
        });
        Sentence.test(TERMS, "there may be none", TermsBoundaries::noChoice);
    }

    private static void lastCall() {
        PommelTows x = new PommelTows();
        PommelTows y = new PommelTows();
        PommelTows z = new PommelTows();
        for (int call = 1; call <= 511; call++) {
            Check.same("call " + call, x.pass(60), 0);
            y.pass(60);
            z.pass(60);
        }
        Check.same("call 512", x.count(0), 511 * 60);
        Check.same("call 512", y.pass(60), 0);
        Check.same("call 512", Check.thrownBy(() -> z.pass(61)) instanceof IllegalArgumentException ? 1 : 0, 1);
    }

    private static void cut() {
        PommelTows even = Villages.ofDepth(60, 5);
        Check.same("half of 60: less deep", even.blast(0), 30);
        Check.same("half of 60", even.about(0, 2), 30);
        PommelTows odd = Villages.ofDepth(61, 5);
        Check.same("half of 61: less deep", odd.blast(0), 31);
        Check.same("half of 61", odd.about(0, 2), 30);
    }

    private static void hours() {
        PommelTows x = new PommelTows();
        Check.same("at first", x.count(0), 0);
        x.pass(1);
        Check.same("behind one", x.count(0), 1);
        x.pass(60);
        Check.same("behind 61", x.count(0), 61);
    }

    private static void flakes() {
        int[] depths = {34, 30, 28, 29};
        for (int flake = 0; flake <= 3; flake++) {
            PommelTows x = Villages.ofFlake(flake);
            Check.same("flake", x.count(1), flake);
            x.run(0, 1);
            x.pass(1);
            Check.same("snow with flake " + flake, x.about(0, 2), depths[flake]);
        }
        for (int flake : Villages.beside(0, 3)) {
            Check.refused("flake " + flake, () -> Villages.busy(6, 8), Check.ARGUMENT, x -> x.setFlake(0, flake));
        }
    }

    private static void remainder() {
        int[] table = {0, 1, 2, 3, 3, 2};
        int[] snow = {4, 0, -2, -1};
        PommelTows x = new PommelTows();
        Villages.setTable(x, table);
        x.run(0, 1);
        int depth = 30;
        for (int hour = 0; hour < 19; hour++) {
            Check.same("flake of hour " + hour, x.count(1), table[hour % 6]);
            Check.same("flake foreseen from hour " + hour, x.foresee(6, 1), table[hour % 6]);
            Check.same("flake foreseen behind hour " + hour, x.foresee(1, 1), table[(hour + 1) % 6]);
            x.pass(1);
            depth += snow[table[hour % 6]];
            Check.same("depth behind hour " + hour, x.about(0, 2), depth);
        }
        x.pass(60);
        Check.same("flake of hour 79", x.count(1), table[1]);
        x.pass(4);
        Check.same("flake of hour 83", x.count(1), table[5]);
        x.pass(1);
        Check.same("flake of hour 84", x.count(1), table[0]);
    }

    private static void fineAtFirst() {
        PommelTows x = new PommelTows();
        x.run(0, 1);
        for (int hour = 0; hour < 7; hour++) {
            Check.same("flake of hour " + hour, x.count(1), 1);
            x.pass(1);
            Check.same("no snow falls or melts", x.about(0, 2), 30);
        }
        for (int hour = 0; hour < 6; hour++) {
            Check.same("flake in the table", x.setFlake(hour, 0), 1);
        }
    }

    private static void pommels() {
        for (int tow = 0; tow <= 2; tow++) {
            PommelTows x = new PommelTows();
            Villages.queueOf(x, tow, 1, 9, 9, 9, 9, 9);
            Check.same("at first", x.tow(tow, 0), 2);
            Check.same("pulls at first", x.pass(1), 2);
            for (int pommels = 1; pommels <= 4; pommels++) {
                x.setPommels(tow, pommels);
                Check.same("pommels", x.tow(tow, 0), pommels);
                Check.same("pulls with " + pommels, x.pass(1), pommels);
            }
            int ofTow = tow;
            Check.refused("0", x, Check.ARGUMENT, () -> x.setPommels(ofTow, 0));
            Check.refused("5", x, Check.ARGUMENT, () -> x.setPommels(ofTow, 5));
        }
    }

    private static void queues() {
        PommelTows x = new PommelTows();
        Villages.queueIs("nobody", x, 1);
        Check.same("nobody is pulled", x.pass(1), 0);
        for (int skier = 0; skier < 8; skier++) {
            Villages.standing(x, 1, 5, 1);
        }
        Villages.queueIs("all", x, 1, 0, 1, 2, 3, 4, 5, 6, 7);
        x.setPommels(1, 1);
        x.pass(1);
        Check.same("the first rode", x.told(0, 5), 1);
        Check.same("the second did not", x.told(1, 5), 0);
        Villages.queueIs("one further", x, 1, 1, 2, 3, 4, 5, 6, 7, 0);
        Villages.queueIs("nobody at the tow beside", x, 0);
        Villages.queueIs("nobody at the tow beside", x, 2);
    }

    private static void sixRuns() {
        PommelTows x = new PommelTows();
        for (int run = 0; run < 6; run++) {
            Check.same("runs", x.count(3), run);
            int next = run;
            Check.refused("not yet there", x, Check.INDEX, () -> x.about(next, 0));
            Check.same("number", x.run(2 - run % 3, run + 1), run);
            Check.same("its tow", x.about(run, 0), 2 - run % 3);
            Check.same("its slope", x.about(run, 1), run + 1);
        }
        Check.refused("a seventh", x, Check.STATE, () -> x.run(0, 1));
        Check.same("runs", x.count(3), 6);
        Villages.standing(x, 5, 1, 0);
        x.pass(1);
        Check.same("the sixth is skied", x.about(5, 4), 1);
    }

    private static void depths() {
        Check.same("at first", Villages.ofDepth(30, 1).about(0, 2), 30);
        PommelTows low = Villages.ofDepth(1, 1);
        Check.same("1 deep", low.about(0, 2), 1);
        Villages.setTable(low, Villages.ICE);
        low.pass(1);
        Check.same("0 deep", low.about(0, 2), 0);
        low.pass(1);
        Check.same("no less than 0", low.about(0, 2), 0);
        PommelTows high = Villages.ofDepth(89, 1);
        Check.same("89 deep", high.about(0, 2), 89);
        Villages.setTable(high, Villages.NEW);
        high.pass(1);
        Check.same("90 deep", high.about(0, 2), 90);
        high.pass(1);
        Check.same("no more than 90", high.about(0, 2), 90);
        high.run(0, 1);
        Check.same("at first, in a later hour", high.about(1, 2), 30);
    }

    private static void openness(String what, PommelTows x, int run, boolean open) {
        Check.same(what + ", flagged", x.about(run, 3), open ? 0 : 1);
        Check.same(what + ", runs that are flagged", x.count(5), open ? 0 : 1);
        x.skier(9, 0);
        Check.same(what + ", choice", x.choice(x.count(4) - 1, 0), open ? run : -1);
    }

    private static void fiveDeep() {
        for (int slope : new int[] {1, 9}) {
            openness("0 deep, slope " + slope, Villages.ofDepth(0, slope), 0, false);
            openness("4 deep, slope " + slope, Villages.ofDepth(4, slope), 0, false);
            openness("5 deep, slope " + slope, Villages.ofDepth(5, slope), 0, true);
            openness("6 deep, slope " + slope, Villages.ofDepth(6, slope), 0, true);
        }
    }

    private static void tooMuchSnow() {
        for (int slope = 1; slope <= 3; slope++) {
            openness("90 deep, slope " + slope, Villages.ofDepth(90, slope), 0, true);
        }
        for (int slope = 4; slope <= 9; slope++) {
            int enough = 1;
            while (enough * slope < 300) {
                enough++;
            }
            openness(enough - 1 + " deep, slope " + slope, Villages.ofDepth(enough - 1, slope), 0, true);
            openness(enough + " deep, slope " + slope, Villages.ofDepth(enough, slope), 0, false);
            openness(enough + 1 + " deep, slope " + slope, Villages.ofDepth(enough + 1, slope), 0, false);
        }
        openness("just 300 by 50 deep", Villages.ofDepth(50, 6), 0, false);
        openness("just 300 by 60 deep", Villages.ofDepth(60, 5), 0, false);
        openness("just 300 by 75 deep", Villages.ofDepth(75, 4), 0, false);
    }

    private static void flagged() {
        PommelTows x = Villages.ofDepth(4, 9);
        x.run(0, 9);
        Check.same("4 deep", x.about(0, 3), 1);
        Check.same("30 deep", x.about(1, 3), 0);
        Check.same("one of two", x.count(5), 1);
        x.setFlake(x.count(0) % 6, Villages.NEW);
        x.pass(1);
        Check.same("8 deep", x.about(0, 3), 0);
        Check.same("34 deep", x.about(1, 3), 1);
        Check.same("the other of two", x.count(5), 1);
    }

    private static void eightSkiers() {
        PommelTows x = new PommelTows();
        for (int skier = 0; skier < 8; skier++) {
            Check.same("skiers", x.count(4), skier);
            int next = skier;
            Check.refused("not yet there", x, Check.INDEX, () -> x.told(next, 0));
            Check.same("number", x.skier(skier + 1, skier), skier);
            Check.same("skill", x.told(skier, 0), skier + 1);
            Check.same("coins", x.told(skier, 1), skier);
        }
        Check.refused("a ninth", x, Check.STATE, () -> x.skier(1, 1));
        Check.same("skiers", x.count(4), 8);
        x.join(7, 0);
        x.pass(1);
        Check.same("the eighth rides", x.told(7, 5), 1);
    }

    private static void points() {
        PommelTows none = Villages.ofDepth(30, 1);
        Villages.standing(none, 1, 60, 0);
        Check.same("at first", none.told(0, 4), 0);
        none.pass(1);
        Check.same("the least that a run brings", none.told(0, 4), 0);
        PommelTows x = Villages.of961Points();
        Check.same("961", x.told(0, 4), 961);
        x.wax(0, Villages.NEW);
        x.pass(1);
        Check.same("37 more", x.told(0, 4), 998);
        x.pass(1);
        Check.same("held", x.told(0, 4), 999);
        x.pass(1);
        Check.same("held again", x.told(0, 4), 999);
        PommelTows y = Villages.of961Points();
        y.pass(1);
        Check.same("31 more", y.told(0, 4), 992);
        y.join(0, 1);
        y.pass(1);
        Check.same("just 999", y.told(0, 4), 999);
        PommelTows z = Villages.of961Points();
        z.wax(0, Villages.FINE);
        z.pass(1);
        Check.same("39 more, held", z.told(0, 4), 999);
    }

    private static void oneQueue() {
        PommelTows x = new PommelTows();
        x.skier(1, 5);
        Check.same("at first", x.told(0, 6), -1);
        Check.same("in queues at first", x.count(7), 0);
        for (int tow = 0; tow <= 2; tow++) {
            x.join(0, tow);
            for (int other = 0; other <= 2; other++) {
                Check.same("at " + tow + ", queue of " + other, x.tow(other, 1), other == tow ? 1 : 0);
            }
            Check.same("told", x.told(0, 6), tow);
            Check.same("in queues", x.count(7), 1);
        }
        x.leave(0);
        Check.same("in queues", x.count(7), 0);
    }

    private static void layers() {
        PommelTows x = Villages.ofDepth(30, 1);
        Villages.standing(x, 1, 60, 0);
        Check.same("layer at first", x.told(0, 3), 0);
        Check.same("wax at first", x.told(0, 2), -1);
        x.wax(0, 2);
        Check.same("waxed", x.told(0, 3), 10);
        x.wax(0, 2);
        Check.same("waxed on a full layer", x.told(0, 3), 10);
        for (int layer = 9; layer >= 0; layer--) {
            x.pass(1);
            Check.same("worn", x.told(0, 3), layer);
            Check.same("wax with a layer of " + layer, x.told(0, 2), layer == 0 ? -1 : 2);
        }
        x.pass(1);
        Check.same("no less than 0", x.told(0, 3), 0);
        x.wax(0, 3);
        Check.same("waxed anew", x.told(0, 3), 10);
    }

    private static void slopeOfTheSkillAndOne() {
        for (int skill = 1; skill <= 9; skill++) {
            for (int slope = Math.max(1, skill - 1); slope <= Math.min(9, skill + 2); slope++) {
                PommelTows x = Villages.ofDepth(30, slope);
                Villages.standing(x, skill, 1, 0);
                boolean dares = slope <= skill + 1;
                Check.same("skill " + skill + ", slope " + slope, x.choice(0, 0), dares ? 0 : -1);
                x.pass(1);
                Check.same("skied by skill " + skill + ", slope " + slope, x.about(0, 4), dares ? 1 : 0);
            }
        }
    }

    private static void noChoice() {
        PommelTows x = new PommelTows();
        x.skier(1, 0);
        Check.same("no runs", x.choice(0, 0), -1);
        x.run(1, 1);
        Check.same("no run of this tow", x.choice(0, 0), -1);
        Check.same("a run of the tow beside", x.choice(0, 1), 0);
        x.run(0, 3);
        Check.same("too steep", x.choice(0, 0), -1);
        x.run(0, 2);
        Check.same("not too steep", x.choice(0, 0), 2);
        PommelTows y = Villages.ofDepth(4, 1);
        y.skier(9, 0);
        Check.same("flagged", y.choice(0, 0), -1);
    }

    /** Every kind of refused call in one village, which then looks like one that had none of them. */
    private static void refusedInARow() {
        PommelTows x = Villages.busy(6, 8);
        Check.Call[] calls = {
            () -> x.run(3, 5), () -> x.run(0, 0), () -> x.run(0, 5),
            () -> x.setPommels(-1, 1), () -> x.setPommels(0, 5),
            () -> x.setFlake(6, 0), () -> x.setFlake(0, 4),
            () -> x.cannon(6), () -> x.blast(6), () -> x.blast(5),
            () -> x.skier(0, 5), () -> x.skier(5, 61), () -> x.skier(5, 5),
            () -> x.wax(8, 0), () -> x.wax(0, 4),
            () -> x.join(8, 0), () -> x.join(0, 3), () -> x.leave(-1),
            () -> x.about(6, 0), () -> x.about(0, 5), () -> x.told(8, 0), () -> x.told(0, 7),
            () -> x.tow(3, 0), () -> x.tow(0, 3), () -> x.stands(3, 0), () -> x.stands(0, 4),
            () -> x.choice(8, 0), () -> x.choice(0, 3), () -> x.count(9),
            () -> x.pass(0), () -> x.pass(61), () -> x.until(8),
            () -> x.foresee(0, 0), () -> x.foresee(1, 9), () -> x.advise(8, 1), () -> x.advise(0, 13),
        };
        for (int i = 0; i < calls.length; i++) {
            Check.holds("refused call " + i + " throws: that", Check.thrownBy(calls[i]) != null);
        }
        Look.alike("behind all refused calls", x, Villages.busy(6, 8));
    }

    private static void firstException() {
        Check.Maker full = () -> Villages.busy(6, 8);
        Check.Maker poor = () -> {
            PommelTows x = Villages.ofDepth(90, 1);
            x.skier(1, 1);
            return x;
        };
        Check.refused("run: tow, slope and full", full, Check.INDEX, x -> x.run(3, 10));
        Check.refused("run: tow and full", full, Check.INDEX, x -> x.run(-1, 9));
        Check.refused("run: tow and slope", poor, Check.INDEX, x -> x.run(3, 0));
        Check.refused("run: slope and full", full, Check.ARGUMENT, x -> x.run(2, 10));
        Check.refused("setPommels: both", full, Check.INDEX, x -> x.setPommels(3, 5));
        Check.refused("setFlake: both", full, Check.INDEX, x -> x.setFlake(6, 4));
        Check.refused("cannon: run and coins", poor, Check.INDEX, x -> x.cannon(1));
        Check.refused("cannon: coins and 90 deep", poor, Check.STATE, x -> x.cannon(0));
        Check.refused("skier: skill and full", full, Check.ARGUMENT, x -> x.skier(10, 60));
        Check.refused("skier: coins and full", full, Check.ARGUMENT, x -> x.skier(9, 61));
        Check.refused("skier: skill, coins and full", full, Check.ARGUMENT, x -> x.skier(0, -1));
        Check.refused("wax: skier and wax", poor, Check.INDEX, x -> x.wax(1, 4));
        Check.refused("wax: wax and coins", poor, Check.ARGUMENT, x -> x.wax(0, 4));
        Check.refused("foresee: both", full, Check.ARGUMENT, x -> x.foresee(61, 9));
        Check.refused("advise: both", full, Check.INDEX, x -> x.advise(8, 13));
    }
}
