import java.util.Map;
import java.util.Random;
import java.util.TreeMap;

/** Promises 1 to 23: runs of 512 calls, each answer compared with that of the Model; seeds make them repeatable. */
public final class RandomRunsTest {
    private static final Check check = new Check();
    private static final Map<String, Integer> answered = new TreeMap<>();
    private static final Map<String, Integer> thrown = new TreeMap<>();

    private static int merged = 0;

    private final Random random;
    private final int seed;
    private final Desk desk = new Desk();
    private final Model model = new Model();
    private final int[][] worlds;
    private final int[] worldOfDot = new int[60];
    private final int mostError;
    private final int[] nightsOfRun;
    private int calls = 0;

    private RandomRunsTest(int seed) {
        this.seed = seed;
        random = new Random(seed);
        worlds = new int[1 + random.nextInt(8)][];
        for (int i = 0; i < worlds.length; i++) {
            worlds[i] = new int[] {random.nextInt(3600), random.nextInt(81) - 40, random.nextInt(5) - 2};
        }
        mostError = new int[] {0, 1, 3, 9}[seed % 4];
        nightsOfRun = new int[] {4, 40, 120, 1000}[seed / 4 % 4] == 1000 ? new int[] {0, 1000}
            : new int[] {random.nextInt(800), new int[] {4, 40, 120}[seed / 4 % 4]};
    }

    public static void main(String[] args) {
        int runs = args.length > 0 ? Integer.parseInt(args[0]) : 64;
        for (int seed = 0; seed < runs; seed++) {
            new RandomRunsTest(seed).run();
        }
        for (String name : answered.keySet()) {
            check.due("calls of " + name + " that were answered", answered.get(name) > 20 ? 1 : 0, 1);
        }
        check.due("families of several", merged > 20 ? 1 : 0, 1);
        check.due("methods answered", answered.size(), 22);
        System.out.println(merged + " families of several, answered " + answered + ", thrown " + thrown);
        check.end("RandomRunsTest");
    }

    private void call(String name, Check.Call ofDesk, Check.Call ofModel, int... args) {
        StringBuilder told = new StringBuilder("seed " + seed + ", call " + calls + ": " + name + "(");
        for (int arg : args) {
            told.append(arg).append(' ');
        }
        String want = Check.outcome(ofModel);
        check.due(told.append(")").toString(), Check.outcome(ofDesk), want);
        (want.startsWith("throws") ? thrown : answered).merge(name, 1, Integer::sum);
        calls++;
    }

    private void run() {
        int observatories = 1 + random.nextInt(6);
        for (int i = 0; i < observatories; i++) {
            observatory();
        }
        for (int i = 0; i < 8 + random.nextInt(15); i++) {
            plate();
        }
        boolean isGrid = seed % 3 == 0;
        for (int i = 0; i < (isGrid ? 56 : 10 + random.nextInt(30)); i++) {
            if (isGrid) {
                dot(i % worlds.length, i / worlds.length % Math.max(1, model.plates.size()));
            } else {
                dot();
            }
        }
        while (calls < 512) {
            step();
        }
    }

    private void step() {
        int kind = random.nextInt(100);
        if (kind < 1) {
            observatory();
        } else if (kind < 3) {
            plate();
        } else if (kind < 8) {
            dot();
        } else if (kind < 9) {
            int zone = odd(random.nextInt(9));
            int shift = odd(random.nextInt(100) < 70 ? random.nextInt(3) - 1 : random.nextInt(19) - 9);
            call("shift", () -> desk.shift(zone, shift), () -> model.shift(zone, shift), zone, shift);
        } else if (kind < 46) {
            change();
        } else {
            ask();
        }
    }

    private void observatory() {
        int error = odd(random.nextInt(mostError + 1));
        call("observatory", () -> desk.observatory(error), () -> model.observatory(error), error);
    }

    private void plate() {
        int observatory = odd(random.nextInt(Math.max(1, model.errors.size())));
        int night = odd(nightsOfRun[0] + random.nextInt(nightsOfRun[1]));
        call("plate", () -> desk.plate(observatory, night), () -> model.plate(observatory, night), observatory, night);
    }

    private void dot() {
        dot(random.nextInt(worlds.length), odd(random.nextInt(Math.max(1, model.plates.size()))));
    }

    /** Most dots are of one of the run's hidden worlds, as an observatory would see it. */
    private void dot(int world, int plate) {
        int seen = random.nextInt(3600);
        if (plate >= 0 && plate < model.plates.size() && random.nextInt(10) > 0) {
            int error = model.errors.get(model.plates.get(plate)[0]);
            seen = Model.place(worlds[world], model.plates.get(plate)[1]) + random.nextInt(2 * error + 1) - error;
            seen = Math.floorMod(seen - model.shifts[Math.floorMod(seen, 3600) / 400], 3600);
        }
        int place = odd(seen);
        int light = odd(random.nextInt(100));
        if (model.dots.size() < 60) {
            worldOfDot[model.dots.size()] = world;
        }
        call("dot", () -> desk.dot(plate, place, light), () -> model.dot(plate, place, light), plate, place, light);
    }

    private void change() {
        int kind = random.nextInt(37);
        int body = odd(anyBody());
        if (kind < 3) {
            int opened = odd(anyDot());
            call("body", () -> desk.body(opened), () -> model.body(opened), opened);
        } else if (kind < 18) {
            int fit = odd(dotLike(body));
            call("link", () -> desk.link(body, fit), () -> model.link(body, fit), body, fit);
        } else if (kind < 20) {
            int own = odd(ownDot(body));
            call("unlink", () -> desk.unlink(body, own), () -> model.unlink(body, own), body, own);
        } else if (kind < 30) {
            int other = odd(bodyLike(body));
            call("join", () -> desk.join(body, other), () -> model.join(body, other), body, other);
        } else if (kind < 32) {
            call("part", () -> desk.part(body), () -> model.part(body), body);
        } else {
            int ripe = odd(mostSeenBody());
            call("number", () -> desk.number(ripe), () -> model.number(ripe), ripe);
        }
    }

    private void ask() {
        int body = odd(anyBody());
        int what = odd(random.nextInt(7));
        int night = odd(random.nextInt(1000));
        switch (random.nextInt(12)) {
            case 0:
                int dot = odd(anyDot());
                int ofDot = odd(random.nextInt(4));
                call("ofDot", () -> desk.ofDot(dot, ofDot), () -> model.ofDot(dot, ofDot), dot, ofDot);
                break;
            case 1:
                call("ofBody", () -> desk.ofBody(body, what), () -> model.ofBody(body, what), body, what);
                break;
            case 2:
                call("orbits", () -> desk.orbits(body), () -> model.orbits(body), body);
                break;
            case 3:
                call("orbitsAnew", () -> desk.orbitsAnew(body), () -> model.orbits(body), body);
                break;
            case 4:
                int orbit = odd(random.nextInt(random.nextBoolean() ? 2 : 8000));
                int ofOrbit = odd(random.nextInt(3));
                call("orbit", () -> desk.orbit(body, orbit, ofOrbit), () -> model.orbit(body, orbit, ofOrbit), body,
                    orbit, ofOrbit);
                break;
            case 5:
                call("spread", () -> desk.spread(body, night), () -> model.spread(body, night), body, night);
                break;
            case 6:
                int rank = odd(random.nextInt(random.nextBoolean() ? 4 : 500));
                call("where", () -> desk.where(body, night, rank), () -> model.where(body, night, rank), body, night,
                    rank);
                break;
            case 7:
                call("candidates", () -> desk.candidates(body), () -> model.candidates(body), body);
                break;
            case 8:
                chance(body);
                break;
            case 9:
                int measure = odd(random.nextInt(91));
                call("families", () -> desk.families(measure), () -> model.families(measure), measure);
                countMerged(measure);
                break;
            case 10:
                int by = odd(random.nextInt(91));
                call("family", () -> desk.family(body, by), () -> model.family(body, by), body, by);
                break;
            default:
                boolean isFault = random.nextBoolean();
                call("turn", () -> desk.turn(body, isFault), () -> model.turn(body, isFault), body);
        }
    }

    private void countMerged(int measure) {
        long numbered = model.bodies.stream().filter(one -> one.number != Model.NONE).count();
        if (measure >= 0 && measure <= 90 && numbered > model.families(measure)) {
            merged++;
        }
    }

    private void chance(int body) {
        int from = odd(random.nextInt(4) == 0 ? 900 + random.nextInt(4) : random.nextInt(1000));
        int nights = odd(random.nextBoolean() ? 1 + random.nextInt(3) : 1 + random.nextInt(60));
        boolean isBelow = random.nextBoolean();
        call("chance", () -> desk.chance(body, from, nights, isBelow),
            () -> model.chance(body, from, nights, isBelow), body, from, nights, isBelow ? 1 : 0);
    }

    /** Now and then a value that is likely to be out of its range. */
    private int odd(int value) {
        int[] odd = {-1, 10, 20, 30, 60, 100, 1000, 3600, value + 1, -value, Integer.MIN_VALUE, Integer.MAX_VALUE};
        return random.nextInt(60) == 0 ? odd[random.nextInt(odd.length)] : value;
    }

    private int anyDot() {
        return random.nextInt(Math.max(1, model.dots.size()));
    }

    private int anyBody() {
        return random.nextInt(Math.max(1, model.bodies.size()));
    }

    private int mostSeenBody() {
        int best = anyBody();
        for (int tries = 0; tries < 8 && isBody(best); tries++) {
            int other = anyBody();
            if (model.bodies.get(other).number == Model.NONE && model.ofBody(other, 0) > model.ofBody(best, 0)) {
                best = other;
            }
        }
        return best;
    }

    private boolean isBody(int body) {
        return body >= 0 && body < model.bodies.size();
    }

    private int dotLike(int body) {
        int dot = anyDot();
        for (int tries = 0; tries < 20 && isBody(body); tries++) {
            int own = model.bodies.get(body).own.iterator().next();
            if (worldOfDot[own] == worldOfDot[dot] && own != dot) {
                return dot;
            }
            dot = anyDot();
        }
        return dot;
    }

    private int ownDot(int body) {
        if (!isBody(body) || random.nextInt(5) == 0) {
            return anyDot();
        }
        Integer[] own = model.bodies.get(body).own.toArray(new Integer[0]);
        return own[random.nextInt(own.length)];
    }

    private int bodyLike(int body) {
        int other = anyBody();
        for (int tries = 0; tries < 20 && isBody(body) && isBody(other); tries++) {
            int own = model.bodies.get(body).own.iterator().next();
            int others = model.bodies.get(other).own.iterator().next();
            if (worldOfDot[own] == worldOfDot[others] && body != other) {
                return other;
            }
            other = anyBody();
        }
        return other;
    }
}
