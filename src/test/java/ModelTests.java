import java.util.ArrayList;
import java.util.List;

/**
 * Long mixed runs of calls, right and wrong ones, against a second village that is written for
 * itself: with objects and lists, and with copies made anew for each look ahead.
 */
public final class ModelTests {
    private static final int OBJECTS = 1000;
    private static final int CALLS = 512;
    private static final int METHODS = 22;

    /** The face as a number each, in the document's order; 1 is unused. */
    private static final String[] NAMES = {"", "", "run", "setPommels", "setFlake", "cannon", "blast",
        "skier", "wax", "join", "leave", "about", "told", "tow", "stands", "choice", "count", "pass",
        "until", "foresee", "advise", "mean", "digest"};

    private static long seed = 20261119L;

    public static void main(String[] args) {
        int[] answered = new int[METHODS + 1];
        int[] thrown = new int[METHODS + 1];
        for (int object = 0; object < OBJECTS; object++) {
            oneObject(object, answered, thrown);
        }
        for (int method = 2; method <= METHODS; method++) {
            Check.holds(NAMES[method] + " answers often", answered[method] > 100);
            boolean throwsNothing = method >= 21;
            Check.holds(NAMES[method] + " throws often", throwsNothing || thrown[method] > 100);
        }
        Check.end("ModelTests");
    }

    private static void oneObject(int object, int[] answered, int[] thrown) {
        PommelTows village = new PommelTows();
        Model model = new Model();
        // some objects seldom see hours, so that full rows and short coins come up too
        int hourly = next(4);
        // a digest is a call too, and what a call beyond the last answers is free
        boolean digests = object % 2 == 0;
        for (int i = 0; i < (digests ? CALLS / 2 : CALLS); i++) {
            int method = nextMethod(hourly);
            int a = argument(method, 0);
            int b = argument(method, 1);
            String call = "object " + object + ", call " + i + ": " + NAMES[method] + "(" + a + ", " + b + ")";
            String due = answer(() -> model.call(method, a, b));
            String got = answer(() -> call(village, method, a, b));
            Check.holds(call + " answered " + got + ", due is " + due + ": that", got.equals(due));
            if (digests) {
                Check.same(call + ": digest", village.digest(), model.digest());
            }
            if (due.startsWith("throws")) {
                thrown[method]++;
            } else {
                answered[method]++;
            }
        }
    }

    private static int next(int below) {
        seed = seed * 6364136223846793005L + 1442695040888963407L;
        return (int) ((seed >>> 33) % below);
    }

    private static int nextMethod(int hourly) {
        if (next(4) < hourly) {
            int[] oftener = {2, 5, 6, 7, 8, 9, 9, 9, 17, 17, 20, 18};
            return oftener[next(oftener.length)];
        }
        return 2 + next(METHODS - 1);
    }

    /** An argument of a method: mostly within its range, sometimes just outside or far out. */
    private static int argument(int method, int place) {
        int chance = next(60);
        if (chance == 0) {
            return Integer.MIN_VALUE + next(3);
        }
        if (chance == 1) {
            return Integer.MAX_VALUE - next(3);
        }
        int[] range = range(method, place);
        int from = chance < 5 ? range[0] - 1 : range[0];
        int to = chance < 8 ? range[1] + 1 : range[1];
        return from + next(to - from + 1);
    }

    private static int[] range(int method, int place) {
        int[] tows = {0, 2};
        int[] runs = {0, 5};
        int[] skiers = {0, 7};
        switch (method) {
            case 2:
                return place == 0 ? tows : new int[] {1, 9};
            case 3:
                return place == 0 ? tows : new int[] {1, 4};
            case 4:
                return place == 0 ? new int[] {0, 5} : new int[] {0, 3};
            case 5:
            case 6:
                return runs;
            case 7:
                return place == 0 ? new int[] {1, 9} : new int[] {0, 60};
            case 8:
                return place == 0 ? skiers : new int[] {0, 3};
            case 9:
            case 15:
                return place == 0 ? skiers : tows;
            case 10:
            case 18:
                return skiers;
            case 11:
                return place == 0 ? runs : new int[] {0, 4};
            case 12:
                return place == 0 ? skiers : new int[] {0, 6};
            case 13:
                return place == 0 ? tows : new int[] {0, 2};
            case 14:
                return place == 0 ? tows : new int[] {0, 3};
            case 16:
                return new int[] {0, 8};
            case 17:
                return next(8) == 0 ? new int[] {1, 60} : new int[] {1, 3};
            case 19:
                return place == 0 ? new int[] {1, 60} : new int[] {0, 8};
            case 20:
                return place == 0 ? skiers : new int[] {1, 12};
            default:
                return new int[] {0, 1};
        }
    }

    interface Answer {
        Object get();
    }

    private static String answer(Answer call) {
        try {
            return String.valueOf(call.get());
        } catch (RuntimeException e) {
            return "throws " + e.getClass().getSimpleName();
        }
    }

    private static Object call(PommelTows x, int method, int a, int b) {
        switch (method) {
            case 2: return x.run(a, b);
            case 3: return x.setPommels(a, b);
            case 4: return x.setFlake(a, b);
            case 5: return x.cannon(a);
            case 6: return x.blast(a);
            case 7: return x.skier(a, b);
            case 8: return x.wax(a, b);
            case 9: return x.join(a, b);
            case 10: return x.leave(a);
            case 11: return x.about(a, b);
            case 12: return x.told(a, b);
            case 13: return x.tow(a, b);
            case 14: return x.stands(a, b);
            case 15: return x.choice(a, b);
            case 16: return x.count(a);
            case 17: return x.pass(a);
            case 18: return x.until(a);
            case 19: return x.foresee(a, b);
            case 20: return x.advise(a, b);
            case 21: return x.mean();
            default: return x.digest();
        }
    }

    private static final class Piste {
        int tow;
        int slope;
        int depth = 30;
        int skied;

        boolean flagged() {
            return !(depth >= 5 && depth * slope < 300);
        }
    }

    private static final class Person {
        int number;
        int skill;
        int coins;
        int wax = -1;
        int layer;
        int points;
        int rides;
    }

    private static final class Model {
        int hour;
        int coins;
        int[] flakes = {1, 1, 1, 1, 1, 1};
        int[] pommels = {2, 2, 2};
        int[] pulled = new int[3];
        List<Piste> pistes = new ArrayList<>();
        List<Person> people = new ArrayList<>();
        List<List<Person>> queues = List.of(new ArrayList<>(), new ArrayList<>(), new ArrayList<>());

        Model copy() {
            Model m = new Model();
            m.hour = hour;
            m.coins = coins;
            m.flakes = flakes.clone();
            m.pommels = pommels.clone();
            m.pulled = pulled.clone();
            for (Piste p : pistes) {
                Piste q = new Piste();
                q.tow = p.tow;
                q.slope = p.slope;
                q.depth = p.depth;
                q.skied = p.skied;
                m.pistes.add(q);
            }
            for (Person p : people) {
                Person q = new Person();
                q.number = p.number;
                q.skill = p.skill;
                q.coins = p.coins;
                q.wax = p.wax;
                q.layer = p.layer;
                q.points = p.points;
                q.rides = p.rides;
                m.people.add(q);
            }
            for (int tow = 0; tow < 3; tow++) {
                for (Person p : queues.get(tow)) {
                    m.queues.get(tow).add(m.people.get(p.number));
                }
            }
            return m;
        }

        static void index(boolean fine) {
            if (!fine) {
                throw new IndexOutOfBoundsException();
            }
        }

        static void argument(boolean fine) {
            if (!fine) {
                throw new IllegalArgumentException();
            }
        }

        static void state(boolean fine) {
            if (!fine) {
                throw new IllegalStateException();
            }
        }

        static boolean in(int x, int from, int to) {
            return from <= x && x <= to;
        }

        Piste piste(int run) {
            index(in(run, 0, pistes.size() - 1));
            return pistes.get(run);
        }

        Person person(int skier) {
            index(in(skier, 0, people.size() - 1));
            return people.get(skier);
        }

        Object call(int method, int a, int b) {
            switch (method) {
                case 2: return addPiste(a, b);
                case 3: {
                    index(in(a, 0, 2));
                    argument(in(b, 1, 4));
                    int before = pommels[a];
                    pommels[a] = b;
                    return before;
                }
                case 4: {
                    index(in(a, 0, 5));
                    argument(in(b, 0, 3));
                    int before = flakes[a];
                    flakes[a] = b;
                    return before;
                }
                case 5: return cannon(piste(a));
                case 6: {
                    Piste p = piste(a);
                    state(p.depth * p.slope >= 300);
                    int before = p.depth;
                    p.depth /= 2;
                    return before - p.depth;
                }
                case 7: return addPerson(a, b);
                case 8: return putOn(a, b);
                case 9: {
                    Person p = person(a);
                    index(in(b, 0, 2));
                    takeOut(p);
                    queues.get(b).add(p);
                    return queues.get(b).indexOf(p);
                }
                case 10: return takeOut(person(a));
                case 14: {
                    index(in(a, 0, 2));
                    index(in(b, 0, queues.get(a).size() - 1));
                    return queues.get(a).get(b).number;
                }
                case 15: {
                    Person p = person(a);
                    index(in(b, 0, 2));
                    Piste best = choose(p, b);
                    return best == null ? -1 : pistes.indexOf(best);
                }
                case 17: {
                    argument(in(a, 1, 60));
                    int before = rides();
                    go(a);
                    return rides() - before;
                }
                default: return look(method, a, b);
            }
        }

        Object look(int method, int a, int b) {
            switch (method) {
                case 11: {
                    Piste p = piste(a);
                    int[] all = {p.tow, p.slope, p.depth, p.flagged() ? 1 : 0, p.skied};
                    index(in(b, 0, 4));
                    return all[b];
                }
                case 12: {
                    int[] all = all(person(a));
                    index(in(b, 0, 6));
                    return all[b];
                }
                case 13: {
                    index(in(a, 0, 2) && in(b, 0, 2));
                    return new int[] {pommels[a], queues.get(a).size(), pulled[a]}[b];
                }
                case 16: {
                    index(in(a, 0, 8));
                    return counts()[a];
                }
                case 18: return until(person(a).number);
                case 19: {
                    argument(in(a, 1, 60));
                    index(in(b, 0, 8));
                    Model m = copy();
                    m.go(a);
                    return m.counts()[b];
                }
                case 20: return advise(person(a).number, b);
                case 21: return people.isEmpty() ? 0.0 : (double) counts()[8] / people.size();
                default: return digest();
            }
        }

        int addPiste(int tow, int slope) {
            index(in(tow, 0, 2));
            argument(in(slope, 1, 9));
            state(pistes.size() < 6);
            Piste p = new Piste();
            p.tow = tow;
            p.slope = slope;
            pistes.add(p);
            return pistes.size() - 1;
        }

        int cannon(Piste p) {
            state(coins >= 3 && p.depth != 90);
            coins -= 3;
            p.depth = Math.min(90, p.depth + 12);
            return p.depth;
        }

        int addPerson(int skill, int purse) {
            argument(in(skill, 1, 9) && in(purse, 0, 60));
            state(people.size() < 8);
            Person p = new Person();
            p.number = people.size();
            p.skill = skill;
            p.coins = purse;
            people.add(p);
            return p.number;
        }

        int putOn(int skier, int wax) {
            Person p = person(skier);
            argument(in(wax, 0, 3));
            state(p.coins >= 2);
            p.coins -= 2;
            coins += 2;
            p.wax = wax;
            p.layer = 10;
            return p.coins;
        }

        boolean takeOut(Person p) {
            boolean stood = false;
            for (List<Person> queue : queues) {
                stood |= queue.remove(p);
            }
            return stood;
        }

        Piste choose(Person who, int tow) {
            Piste best = null;
            for (int slope = who.skill + 1; slope >= 1 && best == null; slope--) {
                for (int i = pistes.size() - 1; i >= 0; i--) {
                    Piste p = pistes.get(i);
                    if (p.tow == tow && p.slope == slope && !p.flagged()) {
                        best = p;
                    }
                }
            }
            return best;
        }

        void go(int hours) {
            for (int i = 0; i < hours; i++) {
                int flake = flakes[hour % 6];
                int[] snow = {4, 0, -2, -1};
                for (Piste p : pistes) {
                    p.depth = Math.max(0, Math.min(90, p.depth + snow[flake]));
                }
                for (int tow = 0; tow < 3; tow++) {
                    turn(tow, flake);
                }
                hour++;
            }
        }

        void turn(int tow, int flake) {
            int free = pommels[tow];
            for (Person p : new ArrayList<>(queues.get(tow))) {
                if (free == 0) {
                    return;
                }
                queues.get(tow).remove(p);
                if (p.coins == 0) {
                    continue;
                }
                p.coins--;
                coins++;
                p.rides++;
                pulled[tow]++;
                free--;
                down(p, choose(p, tow), flake);
                queues.get(tow).add(p);
            }
        }

        void down(Person p, Piste piste, int flake) {
            if (piste == null) {
                return;
            }
            int glide = -4;
            if (p.layer > 0) {
                glide = 4 - 2 * Math.abs(p.wax - flake);
                p.layer--;
            }
            p.points = Math.max(0, Math.min(999, p.points + 3 * piste.slope + p.skill + glide));
            piste.depth--;
            piste.skied++;
        }

        int rides() {
            int sum = 0;
            for (Person p : people) {
                sum += p.rides;
            }
            return sum;
        }

        int until(int skier) {
            Model m = copy();
            for (int hours = 1; hours <= 90; hours++) {
                m.go(1);
                if (m.people.get(skier).rides != people.get(skier).rides) {
                    return hours;
                }
            }
            return -1;
        }

        int advise(int skier, int hours) {
            argument(in(hours, 1, 12));
            int best = 3;
            int most = -1;
            for (int wax = 3; wax >= 0; wax--) {
                Model m = copy();
                m.people.get(skier).wax = wax;
                m.people.get(skier).layer = 10;
                m.go(hours);
                if (m.people.get(skier).points >= most) {
                    most = m.people.get(skier).points;
                    best = wax;
                }
            }
            return best;
        }

        int[] all(Person p) {
            int tow = -1;
            for (int i = 0; i < 3; i++) {
                if (queues.get(i).contains(p)) {
                    tow = i;
                }
            }
            return new int[] {p.skill, p.coins, p.layer == 0 ? -1 : p.wax, p.layer, p.points, p.rides, tow};
        }

        int[] counts() {
            int flagged = 0;
            for (Piste p : pistes) {
                flagged += p.flagged() ? 1 : 0;
            }
            int points = 0;
            for (Person p : people) {
                points += p.points;
            }
            int waiting = queues.get(0).size() + queues.get(1).size() + queues.get(2).size();
            return new int[] {hour, flakes[hour % 6], coins, pistes.size(), people.size(), flagged, rides(),
                waiting, points};
        }

        long digest() {
            List<Integer> all = new ArrayList<>();
            addAll(all, counts());
            addAll(all, flakes);
            for (Piste p : pistes) {
                addAll(all, p.tow, p.slope, p.depth, p.flagged() ? 1 : 0, p.skied);
            }
            for (Person p : people) {
                addAll(all, all(p));
            }
            for (int tow = 0; tow < 3; tow++) {
                addAll(all, pommels[tow], queues.get(tow).size(), pulled[tow]);
                for (Person p : queues.get(tow)) {
                    all.add(p.number);
                }
            }
            long d = 1481;
            for (int x : all) {
                d = d * 31 + x;
            }
            return d;
        }

        static void addAll(List<Integer> list, int... numbers) {
            for (int x : numbers) {
                list.add(x);
            }
        }
    }
}
