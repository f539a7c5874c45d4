import java.util.ArrayList;
import java.util.List;

/** All that the calls of a village show without changing it. */
final class Look {
    private static final int[] HOURS = {1, 60};

    private final List<String> calls = new ArrayList<>();
    private final List<Double> answers = new ArrayList<>();
    private final long digest;

    private Look(PommelTows x) {
        digest = x.digest();
        for (int what = 0; what < 9; what++) {
            put("count(" + what + ")", x.count(what));
        }
        for (int run = 0; run < x.count(3); run++) {
            for (int what = 0; what < 5; what++) {
                put("about(" + run + ", " + what + ")", x.about(run, what));
            }
        }
        int skiers = x.count(4);
        for (int skier = 0; skier < skiers; skier++) {
            lookAtSkier(x, skier);
        }
        for (int tow = 0; tow < 3; tow++) {
            lookAtTow(x, tow);
        }
        lookAhead(x);
        put("mean()", x.mean());
    }

    private void put(String call, double answer) {
        calls.add(call);
        answers.add(answer);
    }

    private void lookAtSkier(PommelTows x, int skier) {
        for (int what = 0; what < 7; what++) {
            put("told(" + skier + ", " + what + ")", x.told(skier, what));
        }
        for (int tow = 0; tow < 3; tow++) {
            put("choice(" + skier + ", " + tow + ")", x.choice(skier, tow));
        }
        put("until(" + skier + ")", x.until(skier));
        put("advise(" + skier + ", 1)", x.advise(skier, 1));
        put("advise(" + skier + ", 12)", x.advise(skier, 12));
    }

    private void lookAtTow(PommelTows x, int tow) {
        for (int what = 0; what < 3; what++) {
            put("tow(" + tow + ", " + what + ")", x.tow(tow, what));
        }
        int waiting = x.tow(tow, 1);
        for (int place = 0; place < waiting; place++) {
            put("stands(" + tow + ", " + place + ")", x.stands(tow, place));
        }
    }

    /** The table of flakes shows only as the hours come. */
    private void lookAhead(PommelTows x) {
        for (int hours = 1; hours <= 6; hours++) {
            put("foresee(" + hours + ", 1)", x.foresee(hours, 1));
        }
        for (int hours : HOURS) {
            for (int what = 0; what < 9; what++) {
                put("foresee(" + hours + ", " + what + ")", x.foresee(hours, what));
            }
        }
    }

    /** Both villages answer alike; the first row that differs is told. */
    static void alike(String what, PommelTows got, PommelTows due) {
        Look gotLook = new Look(got);
        Look dueLook = new Look(due);
        Check.same(what + " digest()", gotLook.digest, dueLook.digest);
        Check.same(what + " the number of answers", gotLook.calls.size(), dueLook.calls.size());
        int rows = Math.min(gotLook.calls.size(), dueLook.calls.size());
        for (int i = 0; i < rows; i++) {
            String call = gotLook.calls.get(i);
            if (!gotLook.answers.get(i).equals(dueLook.answers.get(i))) {
                Check.fail(what + " " + call + " answered " + gotLook.answers.get(i)
                        + ", due is " + dueLook.answers.get(i));
                return;
            }
        }
        // a look itself changes nothing
        Check.same(what + " digest() behind the look", got.digest(), dueLook.digest);
    }
}
