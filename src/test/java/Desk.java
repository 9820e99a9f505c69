/** A desk that no test asks more than 512 calls, as the document leaves free what later calls answer. */
final class Desk {
    static final int MOST_CALLS = 512;

    private final PlanetoidDesk desk = new PlanetoidDesk();
    private int calls = 0;

    /** One call of a desk, to be asked when it is due. */
    interface Step {
        int on(Desk desk);
    }

    private PlanetoidDesk asked() {
        calls++;
        if (calls > MOST_CALLS) {
            throw new AssertionError("a test asks more than " + MOST_CALLS + " calls of one desk");
        }
        return desk;
    }

    int callsLeft() {
        return MOST_CALLS - calls;
    }

    int observatory(int error) {
        return asked().observatory(error);
    }

    int plate(int observatory, int night) {
        return asked().plate(observatory, night);
    }

    int dot(int plate, int place, int light) {
        return asked().dot(plate, place, light);
    }

    int shift(int zone, int shift) {
        return asked().shift(zone, shift);
    }

    int ofDot(int dot, int what) {
        return asked().ofDot(dot, what);
    }

    int body(int dot) {
        return asked().body(dot);
    }

    int link(int body, int dot) {
        return asked().link(body, dot);
    }

    int unlink(int body, int dot) {
        return asked().unlink(body, dot);
    }

    int join(int body, int other) {
        return asked().join(body, other);
    }

    int part(int body) {
        return asked().part(body);
    }

    int number(int body) {
        return asked().number(body);
    }

    int ofBody(int body, int what) {
        return asked().ofBody(body, what);
    }

    int orbits(int body) {
        return asked().orbits(body);
    }

    int orbitsAnew(int body) {
        return asked().orbitsAnew(body);
    }

    int orbit(int body, int orbit, int what) {
        return asked().orbit(body, orbit, what);
    }

    int spread(int body, int night) {
        return asked().spread(body, night);
    }

    int where(int body, int night, int rank) {
        return asked().where(body, night, rank);
    }

    int candidates(int body) {
        return asked().candidates(body);
    }

    int chance(int body, int from, int nights, boolean isBelow) {
        return asked().chance(body, from, nights, isBelow);
    }

    int families(int measure) {
        return asked().families(measure);
    }

    int family(int body, int measure) {
        return asked().family(body, measure);
    }

    int turn(int body, boolean isFault) {
        return asked().turn(body, isFault);
    }
}
