import java.util.ArrayList;
import java.util.Comparator;
import java.util.HashMap;
import java.util.HashSet;
import java.util.List;
import java.util.Map;
import java.util.Set;
import java.util.TreeSet;

/** The document by its words alone, slow and plain: orbits are looked for among all that there are. */
final class Model {
    static final int NONE = -1;

    static final class Body {
        final Set<Integer> own = new TreeSet<>();
        /** Those joined to it by themselves, the latest one last. */
        final List<Integer> joined = new ArrayList<>();
        int host = NONE;
        int number = NONE;
        int[] proper;
    }

    final List<Integer> errors = new ArrayList<>();
    final List<int[]> plates = new ArrayList<>();
    final List<int[]> dots = new ArrayList<>();
    final int[] shifts = new int[9];
    final List<Body> bodies = new ArrayList<>();
    private int numbers = 0;
    private final Map<String, List<int[]>> known = new HashMap<>();

    private static void index(boolean isThere) {
        if (!isThere) {
            throw new IndexOutOfBoundsException();
        }
    }

    private static void argument(boolean isRight) {
        if (!isRight) {
            throw new IllegalArgumentException();
        }
    }

    private static void state(boolean isRight) {
        if (!isRight) {
            throw new IllegalStateException();
        }
    }

    private static boolean within(long value, long least, long greatest) {
        return least <= value && value <= greatest;
    }

    private static boolean isOf(int number, List<?> list) {
        return within(number, 0, list.size() - 1);
    }

    int observatory(int error) {
        argument(within(error, 0, 9));
        state(errors.size() < 6);
        errors.add(error);
        return errors.size() - 1;
    }

    int plate(int observatory, int night) {
        index(isOf(observatory, errors));
        argument(within(night, 0, 999));
        state(plates.size() < 30);
        plates.add(new int[] {observatory, night});
        return plates.size() - 1;
    }

    int dot(int plate, int place, int light) {
        index(isOf(plate, plates));
        argument(within(place, 0, 3599) && within(light, 0, 99));
        state(dots.size() < 60);
        dots.add(new int[] {plate, place, light});
        return dots.size() - 1;
    }

    int shift(int zone, int shift) {
        index(within(zone, 0, 8));
        argument(within(shift, -9, 9));
        int before = shifts[zone];
        shifts[zone] = shift;
        return before;
    }

    int ofDot(int dot, int what) {
        index(isOf(dot, dots));
        argument(within(what, 0, 3));
        return new int[] {night(dot), truePlace(dot), dots.get(dot)[2], owner(dot)}[what];
    }

    int body(int dot) {
        index(isOf(dot, dots));
        state(owner(dot) == NONE && bodies.size() < 20);
        Body made = new Body();
        made.own.add(dot);
        bodies.add(made);
        return bodies.size() - 1;
    }

    int link(int body, int dot) {
        index(isOf(body, bodies) && isOf(dot, dots));
        state(canLink(body, dot));
        bodies.get(body).own.add(dot);
        return looks(body).size();
    }

    int unlink(int body, int dot) {
        index(isOf(body, bodies) && isOf(dot, dots));
        Set<Integer> own = bodies.get(body).own;
        state(own.contains(dot) && own.size() > 1);
        own.remove(dot);
        return own.size();
    }

    int join(int body, int other) {
        index(isOf(body, bodies) && isOf(other, bodies));
        Body one = bodies.get(body);
        Body two = bodies.get(other);
        state(one != two && one.host == NONE && two.host == NONE && (one.number == NONE || two.number == NONE));
        Set<Integer> both = looks(body);
        both.addAll(looks(other));
        Set<Integer> seenOn = new HashSet<>();
        for (int dot : both) {
            state(seenOn.add(dots.get(dot)[0]));
        }
        state(!orbitsOf(both).isEmpty());
        boolean isOne = one.number != NONE || two.number == NONE && first(both) == firstLook(body);
        int stronger = isOne ? body : other;
        int weaker = isOne ? other : body;
        bodies.get(weaker).host = stronger;
        bodies.get(stronger).joined.add(weaker);
        return stronger;
    }

    int part(int body) {
        index(isOf(body, bodies));
        List<Integer> joined = bodies.get(body).joined;
        state(!joined.isEmpty());
        int freed = joined.remove(joined.size() - 1);
        bodies.get(freed).host = NONE;
        return freed;
    }

    int number(int body) {
        index(isOf(body, bodies));
        Body one = bodies.get(body);
        state(one.host == NONE && one.number == NONE);
        TreeSet<Integer> nights = new TreeSet<>();
        for (int dot : looks(body)) {
            nights.add(night(dot));
        }
        state(nights.size() >= 3 && nights.last() - nights.first() >= 30);
        state(orbitsOf(looks(body)).size() == 1);
        one.number = ++numbers;
        one.proper = orbitsOf(looks(body)).get(0);
        return one.number;
    }

    int ofBody(int body, int what) {
        index(isOf(body, bodies));
        argument(within(what, 0, 6));
        Body one = bodies.get(body);
        int first = firstLook(body);
        return new int[] {looks(body).size(), one.own.size(), one.host, plates.get(dots.get(first)[0])[0], first,
            one.number, one.joined.size()}[what];
    }

    int orbits(int body) {
        index(isOf(body, bodies));
        return orbitsOf(looks(body)).size();
    }

    int orbit(int body, int orbit, int what) {
        index(isOf(body, bodies) && isOf(orbit, orbitsOf(looks(body))));
        argument(within(what, 0, 2));
        return orbitsOf(looks(body)).get(orbit)[what];
    }

    int spread(int body, int night) {
        index(isOf(body, bodies));
        argument(within(night, 0, 999));
        return placesIn(body, night).size();
    }

    int where(int body, int night, int rank) {
        index(isOf(body, bodies));
        argument(within(night, 0, 999) && rank >= 0);
        List<Integer> places = new ArrayList<>(placesIn(body, night));
        return rank < places.size() ? places.get(rank) : NONE;
    }

    int candidates(int body) {
        index(isOf(body, bodies));
        int count = 0;
        for (int dot = 0; dot < dots.size(); dot++) {
            count += canLink(body, dot) ? 1 : 0;
        }
        return count;
    }

    int chance(int body, int from, int nights, boolean isBelow) {
        index(isOf(body, bodies));
        argument(within(from, 0, 999) && within(nights, 1, 60) && within((long) from + nights - 1, 0, 999));
        Set<List<Integer>> paths = new HashSet<>();
        for (int[] orbit : orbitsOf(looks(body))) {
            List<Integer> path = new ArrayList<>();
            for (int night = from; night < from + nights; night++) {
                path.add(place(orbit, night));
            }
            paths.add(path);
        }
        int near = 0;
        for (List<Integer> path : paths) {
            boolean isNear = false;
            for (int i = 0; i < nights; i++) {
                isNear = isNear || apart(path.get(i), 10 * (from + i) % 3600) <= 2;
            }
            near += isNear ? 1 : 0;
        }
        if (near == 0) {
            return isBelow && !paths.isEmpty() ? 1 : 0;
        }
        int divisor = near;
        while (near % divisor != 0 || paths.size() % divisor != 0) {
            divisor--;
        }
        return (isBelow ? paths.size() : near) / divisor;
    }

    int families(int measure) {
        argument(within(measure, 0, 90));
        Set<Integer> heads = new HashSet<>();
        for (int body = 0; body < bodies.size(); body++) {
            if (bodies.get(body).number != NONE) {
                heads.add(family(body, measure));
            }
        }
        return heads.size();
    }

    int family(int body, int measure) {
        index(isOf(body, bodies));
        argument(within(measure, 0, 90));
        if (bodies.get(body).number == NONE) {
            return NONE;
        }
        List<Integer> reached = new ArrayList<>(List.of(body));
        for (int i = 0; i < reached.size(); i++) {
            for (int next = 0; next < bodies.size(); next++) {
                if (!reached.contains(next) && areAkin(bodies.get(reached.get(i)), bodies.get(next), measure)) {
                    reached.add(next);
                }
            }
        }
        reached.sort(Comparator.comparingInt(one -> bodies.get(one).number));
        return reached.get(0);
    }

    int turn(int body, boolean isFault) {
        index(isOf(body, bodies));
        if (looks(body).size() < 4) {
            return NONE;
        }
        int[] best = null;
        for (int p = 2; p <= 20; p++) {
            Map<Integer, TreeSet<Integer>> lights = new HashMap<>();
            for (int dot : looks(body)) {
                lights.computeIfAbsent(night(dot) % p, rest -> new TreeSet<>()).add(dots.get(dot)[2]);
            }
            int fault = 0;
            for (TreeSet<Integer> part : lights.values()) {
                fault += part.last() - part.first();
            }
            if (best == null || fault < best[1]) {
                best = new int[] {p, fault};
            }
        }
        return best[isFault ? 1 : 0];
    }

    private static boolean areAkin(Body one, Body two, int measure) {
        return two.number != NONE
            && Math.abs(one.proper[1] - two.proper[1]) + 5 * Math.abs(one.proper[2] - two.proper[2]) <= measure;
    }

    private int night(int dot) {
        return plates.get(dots.get(dot)[0])[1];
    }

    int truePlace(int dot) {
        int place = dots.get(dot)[1];
        return Math.floorMod(place + shifts[place / 400], 3600);
    }

    private int owner(int dot) {
        for (int body = 0; body < bodies.size(); body++) {
            if (bodies.get(body).own.contains(dot)) {
                return body;
            }
        }
        return NONE;
    }

    private Set<Integer> looks(int body) {
        Set<Integer> all = new TreeSet<>(bodies.get(body).own);
        for (int joined : bodies.get(body).joined) {
            all.addAll(looks(joined));
        }
        return all;
    }

    private int first(Set<Integer> looks) {
        int first = NONE;
        for (int dot : looks) {
            if (first == NONE || night(dot) < night(first)) {
                first = dot;
            }
        }
        return first;
    }

    private int firstLook(int body) {
        return first(looks(body));
    }

    private boolean canLink(int body, int dot) {
        if (owner(dot) != NONE || bodies.get(body).host != NONE) {
            return false;
        }
        for (int look : looks(body)) {
            if (dots.get(look)[0] == dots.get(dot)[0]) {
                return false;
            }
        }
        for (int[] orbit : orbitsOf(looks(body))) {
            if (fits(orbit, dot)) {
                return true;
            }
        }
        return false;
    }

    private static int apart(int one, int two) {
        int steps = Math.abs(one - two);
        return Math.min(steps, 3600 - steps);
    }

    static int place(int[] orbit, int night) {
        return Math.floorMod(orbit[0] + orbit[1] * night + orbit[2] * (night * (night - 1) / 2), 3600);
    }

    private boolean fits(int[] orbit, int dot) {
        int error = errors.get(plates.get(dots.get(dot)[0])[0]);
        return apart(place(orbit, night(dot)), truePlace(dot)) <= error;
    }

    private Set<Integer> placesIn(int body, int night) {
        Set<Integer> places = new TreeSet<>();
        for (int[] orbit : orbitsOf(looks(body))) {
            places.add(place(orbit, night));
        }
        return places;
    }

    private List<int[]> orbitsOf(Set<Integer> looks) {
        StringBuilder key = new StringBuilder();
        for (int dot : looks) {
            key.append(dot).append('@').append(truePlace(dot)).append(' ');
        }
        return known.computeIfAbsent(key.toString(), any -> searchOrbits(looks));
    }

    /** The nights, true places and errors are taken out of the loops for speed alone. */
    private List<int[]> searchOrbits(Set<Integer> looks) {
        int[][] seen = new int[looks.size()][];
        int count = 0;
        for (int dot : looks) {
            int night = night(dot);
            seen[count++] = new int[] {night, night * (night - 1) / 2, truePlace(dot),
                errors.get(plates.get(dots.get(dot)[0])[0])};
        }
        List<int[]> found = new ArrayList<>();
        for (int a = 0; a < 3600; a++) {
            for (int b = -40; b <= 40; b++) {
                for (int c = -2; c <= 2; c++) {
                    if (fitsAll(a, b, c, seen)) {
                        found.add(new int[] {a, b, c});
                    }
                }
            }
        }
        return found;
    }

    private static boolean fitsAll(int a, int b, int c, int[][] seen) {
        for (int[] look : seen) {
            if (apart(Math.floorMod(a + b * look[0] + c * look[1], 3600), look[2]) > look[3]) {
                return false;
            }
        }
        return true;
    }
}
