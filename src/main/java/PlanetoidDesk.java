/** An office of small worlds; what each call promises stands in the project's document. */
public final class PlanetoidDesk {
    public static final int NONE = -1;

    private static final int PLACES = 3600;
    private static final int NIGHTS = 1000;
    private static final int ZONES = 9;
    private static final int ZONE_WIDTH = 400;
    private static final int MOST_SHIFT = 9;
    private static final int MOST_ERROR = 9;
    private static final int MOST_LIGHT = 99;
    private static final int MOST_OBSERVATORIES = 6;
    private static final int MOST_PLATES = 30;
    private static final int MOST_DOTS = 60;
    private static final int MOST_BODIES = 20;

    private static final int MOST_B = 40;
    private static final int MOST_C = 2;
    private static final int UNLIKE_C = 5;
    /** A course is a pair of b and c; courses are numbered by their b, then c, from 0 on. */
    private static final int COURSES = 405;

    private static final int NIGHTS_FOR_NUMBER = 30;
    private static final int MOST_CHANCE_NIGHTS = 60;
    private static final int EARTH_STEP = 10;
    private static final int NEAR = 2;
    private static final int MOST_MEASURE = 90;
    private static final int C_WEIGHT = 5;
    private static final int LEAST_TURN = 2;
    private static final int MOST_TURN = 20;
    private static final int LOOKS_FOR_TURN = 4;

    private final Sky sky;
    private final Bodies bodies;
    private final Looks looks;
    private final Orbits fitting;
    private final Paths paths;
    private final Kinship kinship;

    public PlanetoidDesk() {
        sky = new Sky();
        bodies = new Bodies();
        looks = new Looks();
        fitting = new Orbits();
        paths = new Paths();
        kinship = new Kinship();
    }

    // ---- plates, dots

    public int observatory(int error) throws IllegalArgumentException, IllegalStateException {
        needWithin(error, 0, MOST_ERROR);
        if (sky.observatoryCount >= MOST_OBSERVATORIES) {
            throw new IllegalStateException("there are 6 observatories");
        }
        return sky.addObservatory(error);
    }

    public int plate(int observatory, int night)
            throws IndexOutOfBoundsException, IllegalArgumentException, IllegalStateException {
        needOneOf(observatory, sky.observatoryCount);
        needWithin(night, 0, NIGHTS - 1);
        if (sky.plateCount >= MOST_PLATES) {
            throw new IllegalStateException("there are 30 plates");
        }
        return sky.addPlate(observatory, night);
    }

    public int dot(int plate, int place, int light)
            throws IndexOutOfBoundsException, IllegalArgumentException, IllegalStateException {
        needOneOf(plate, sky.plateCount);
        needWithin(place, 0, PLACES - 1);
        needWithin(light, 0, MOST_LIGHT);
        if (sky.dotCount >= MOST_DOTS) {
            throw new IllegalStateException("there are 60 dots");
        }
        return sky.addDot(plate, place, light);
    }

    public int shift(int zone, int shift) throws IndexOutOfBoundsException, IllegalArgumentException {
        needOneOf(zone, ZONES);
        needWithin(shift, -MOST_SHIFT, MOST_SHIFT);
        return sky.replaceShift(zone, shift);
    }

    public int ofDot(int dot, int what) throws IndexOutOfBoundsException, IllegalArgumentException {
        needOneOf(dot, sky.dotCount);
        needWithin(what, 0, 3);
        switch (what) {
            case 0:
                return sky.nightOf(dot);
            case 1:
                return sky.truePlaceOf(dot);
            case 2:
                return sky.lightOf(dot);
            default:
                return bodies.ownerOf(dot);
        }
    }

    // ---- bodies

    public int body(int dot) throws IndexOutOfBoundsException, IllegalStateException {
        needOneOf(dot, sky.dotCount);
        if (!bodies.isUnlinked(dot)) {
            throw new IllegalStateException("the dot is not unlinked");
        }
        if (bodies.count >= MOST_BODIES) {
            throw new IllegalStateException("there are 20 bodies");
        }
        return bodies.addBody(dot);
    }

    public int link(int body, int dot) throws IndexOutOfBoundsException, IllegalStateException {
        needOneOf(body, bodies.count);
        needOneOf(dot, sky.dotCount);
        findOrbits(body);
        if (!canTake(body, dot)) {
            throw new IllegalStateException("the dot cannot be linked to the body");
        }
        bodies.own(body, dot);
        return countLooks(body);
    }

    public int unlink(int body, int dot) throws IndexOutOfBoundsException, IllegalStateException {
        needOneOf(body, bodies.count);
        needOneOf(dot, sky.dotCount);
        if (bodies.ownerOf(dot) != body || bodies.countOwnDots(body) < 2) {
            throw new IllegalStateException("the dot is no own dot of the body, or the only one");
        }
        bodies.own(NONE, dot);
        return bodies.countOwnDots(body);
    }

    public int join(int body, int other) throws IndexOutOfBoundsException, IllegalStateException {
        needOneOf(body, bodies.count);
        needOneOf(other, bodies.count);
        if (!canJoin(body, other)) {
            throw new IllegalStateException("the bodies cannot be joined");
        }
        int stronger = isStronger(body, other) ? body : other;
        int weaker = stronger == body ? other : body;
        bodies.attach(weaker, stronger);
        return stronger;
    }

    public int part(int body) throws IndexOutOfBoundsException, IllegalStateException {
        needOneOf(body, bodies.count);
        int latest = bodies.latestJoinedTo(body);
        if (latest == NONE) {
            throw new IllegalStateException("no body is joined to it");
        }
        bodies.free(latest);
        return latest;
    }

    public int number(int body) throws IndexOutOfBoundsException, IllegalStateException {
        needOneOf(body, bodies.count);
        if (!canGetNumber(body)) {
            throw new IllegalStateException("the body cannot get a number");
        }
        return bodies.giveNumber(body, fitting.orbitAt(0) % COURSES);
    }

    public int ofBody(int body, int what) throws IndexOutOfBoundsException, IllegalArgumentException {
        needOneOf(body, bodies.count);
        needWithin(what, 0, 6);
        switch (what) {
            case 0:
                return countLooks(body);
            case 1:
                return bodies.countOwnDots(body);
            case 2:
                return bodies.hostOf(body);
            case 3:
                return sky.observatoryOf(firstLookOf(body));
            case 4:
                return firstLookOf(body);
            case 5:
                return bodies.numberOf(body);
            default:
                return bodies.countJoinedTo(body);
        }
    }

    // ---- orbits

    public int orbits(int body) throws IndexOutOfBoundsException {
        needOneOf(body, bodies.count);
        findOrbits(body);
        return fitting.countOrbits();
    }

    public int orbitsAnew(int body) throws IndexOutOfBoundsException {
        needOneOf(body, bodies.count);
        gatherLooks(body);
        int count = 0;
        for (int course = 0; course < COURSES; course++) {
            count += countPlacesLeft(course);
        }
        return count;
    }

    public int orbit(int body, int orbit, int what) throws IndexOutOfBoundsException, IllegalArgumentException {
        needOneOf(body, bodies.count);
        findOrbits(body);
        needOneOf(orbit, fitting.countOrbits());
        needWithin(what, 0, 2);
        int found = fitting.orbitAt(orbit);
        switch (what) {
            case 0:
                return found / COURSES;
            case 1:
                return bOf(found % COURSES);
            default:
                return cOf(found % COURSES);
        }
    }

    public int spread(int body, int night) throws IndexOutOfBoundsException, IllegalArgumentException {
        needOneOf(body, bodies.count);
        needWithin(night, 0, NIGHTS - 1);
        findOrbits(body);
        return fitting.countPlaces(night);
    }

    public int where(int body, int night, int rank) throws IndexOutOfBoundsException, IllegalArgumentException {
        needOneOf(body, bodies.count);
        needWithin(night, 0, NIGHTS - 1);
        if (rank < 0) {
            throw new IllegalArgumentException("there is no rank below 0");
        }
        findOrbits(body);
        return fitting.placeAt(night, rank);
    }

    public int candidates(int body) throws IndexOutOfBoundsException {
        needOneOf(body, bodies.count);
        findOrbits(body);
        int count = 0;
        for (int dot = 0; dot < sky.dotCount; dot++) {
            if (canTake(body, dot)) {
                count++;
            }
        }
        return count;
    }

    // ---- near comings

    public int chance(int body, int from, int nights, boolean isBelow)
            throws IndexOutOfBoundsException, IllegalArgumentException {
        needOneOf(body, bodies.count);
        needWithin(from, 0, NIGHTS - 1);
        needWithin(nights, 1, MOST_CHANCE_NIGHTS);
        needWithin(from + nights - 1, 0, NIGHTS - 1);
        findOrbits(body);
        paths.countPaths(fitting, from, nights);
        int divisor = greatestDivisor(paths.near, paths.all);
        if (divisor == 0) {
            return 0;
        }
        return (isBelow ? paths.all : paths.near) / divisor;
    }

    // ---- families, light

    public int families(int measure) throws IllegalArgumentException {
        needWithin(measure, 0, MOST_MEASURE);
        kinship.findFamilies(bodies, measure);
        int count = 0;
        for (int body = 0; body < bodies.count; body++) {
            if (bodies.numberOf(body) != NONE && bodies.numberOf(body) == kinship.lowestNumberWith(body)) {
                count++;
            }
        }
        return count;
    }

    public int family(int body, int measure) throws IndexOutOfBoundsException, IllegalArgumentException {
        needOneOf(body, bodies.count);
        needWithin(measure, 0, MOST_MEASURE);
        if (bodies.numberOf(body) == NONE) {
            return NONE;
        }
        kinship.findFamilies(bodies, measure);
        return bodies.withNumber(kinship.lowestNumberWith(body));
    }

    public int turn(int body, boolean isFault) throws IndexOutOfBoundsException {
        needOneOf(body, bodies.count);
        gatherLooks(body);
        if (looks.count < LOOKS_FOR_TURN) {
            return NONE;
        }
        int turn = LEAST_TURN;
        int leastFault = faultOf(turn);
        for (int nights = LEAST_TURN + 1; nights <= MOST_TURN; nights++) {
            int fault = faultOf(nights);
            if (fault < leastFault) {
                turn = nights;
                leastFault = fault;
            }
        }
        return isFault ? leastFault : turn;
    }

    // ---- what the calls share

    private static void needOneOf(int number, int count) throws IndexOutOfBoundsException {
        if (number < 0 || number >= count) {
            throw new IndexOutOfBoundsException("there is no such one");
        }
    }

    private static void needWithin(int value, int least, int greatest) throws IllegalArgumentException {
        if (value < least || value > greatest) {
            throw new IllegalArgumentException("an argument is out of its range");
        }
    }

    private void gatherLooks(int body) {
        looks.count = 0;
        for (int dot = 0; dot < sky.dotCount; dot++) {
            if (bodies.isLook(dot, body)) {
                looks.add(dot);
            }
        }
    }

    private int countLooks(int body) {
        gatherLooks(body);
        return looks.count;
    }

    private int firstLookOf(int body) {
        gatherLooks(body);
        int first = looks.dotAt(0);
        for (int i = 1; i < looks.count; i++) {
            if (sky.nightOf(looks.dotAt(i)) < sky.nightOf(first)) {
                first = looks.dotAt(i);
            }
        }
        return first;
    }

    /** Leaves the orbits of the body in fitting. */
    private void findOrbits(int body) {
        fitting.takeAll();
        keepFitting(body);
    }

    private void keepFitting(int body) {
        gatherLooks(body);
        for (int i = 0; i < looks.count; i++) {
            int dot = looks.dotAt(i);
            fitting.keepNear(sky.nightOf(dot), sky.truePlaceOf(dot), sky.errorOf(dot));
        }
    }

    private boolean isSeenOn(int body, int plate) {
        for (int dot = 0; dot < sky.dotCount; dot++) {
            if (sky.plateOf(dot) == plate && bodies.isLook(dot, body)) {
                return true;
            }
        }
        return false;
    }

    /** The orbits of the body are in fitting already, so that many dots can be asked for at the cost of one. */
    private boolean canTake(int body, int dot) {
        return bodies.isUnlinked(dot)
                && bodies.isFree(body)
                && !isSeenOn(body, sky.plateOf(dot))
                && fitting.hasNear(sky.nightOf(dot), sky.truePlaceOf(dot), sky.errorOf(dot));
    }

    private boolean canJoin(int body, int other) {
        if (body == other || !bodies.isFree(body) || !bodies.isFree(other)) {
            return false;
        }
        if (bodies.numberOf(body) != NONE && bodies.numberOf(other) != NONE) {
            return false;
        }
        if (shareAPlate(body, other)) {
            return false;
        }
        findOrbits(body);
        keepFitting(other);
        return fitting.countOrbits() > 0;
    }

    private boolean shareAPlate(int body, int other) {
        for (int dot = 0; dot < sky.dotCount; dot++) {
            if (bodies.isLook(dot, body) && isSeenOn(other, sky.plateOf(dot))) {
                return true;
            }
        }
        return false;
    }

    /** No more than one of the two has a number. */
    private boolean isStronger(int body, int other) {
        if (bodies.numberOf(body) != NONE) {
            return true;
        }
        if (bodies.numberOf(other) != NONE) {
            return false;
        }
        int first = firstLookOf(body);
        int otherFirst = firstLookOf(other);
        int night = sky.nightOf(first);
        int otherNight = sky.nightOf(otherFirst);
        return night < otherNight || night == otherNight && first < otherFirst;
    }

    private boolean canGetNumber(int body) {
        if (!bodies.isFree(body) || bodies.numberOf(body) != NONE || !isSeenLongEnough(body)) {
            return false;
        }
        findOrbits(body);
        return fitting.countOrbits() == 1;
    }

    private boolean isSeenLongEnough(int body) {
        gatherLooks(body);
        int least = NIGHTS;
        int greatest = 0;
        for (int i = 0; i < looks.count; i++) {
            int night = sky.nightOf(looks.dotAt(i));
            least = Math.min(least, night);
            greatest = Math.max(greatest, night);
        }
        boolean hasThird = false;
        for (int i = 0; i < looks.count; i++) {
            int night = sky.nightOf(looks.dotAt(i));
            hasThird = hasThird || night != least && night != greatest;
        }
        return hasThird && greatest - least >= NIGHTS_FOR_NUMBER;
    }

    /** Counts the a of a course that fit all looks gathered; apart from Orbits, so that each checks the other. */
    private int countPlacesLeft(int course) {
        int base = leastAOf(looks.dotAt(0), course);
        long left = -1L;
        for (int i = 0; i < looks.count; i++) {
            int dot = looks.dotAt(i);
            int behind = Math.floorMod(leastAOf(dot, course) - base, PLACES);
            left &= stretch(behind, 2 * sky.errorOf(dot) + 1);
        }
        return Long.bitCount(left);
    }

    /** The a at the beginning of those that a look leaves to a course. */
    private int leastAOf(int dot, int course) {
        int place = sky.truePlaceOf(dot) - sky.errorOf(dot) - drift(course, sky.nightOf(dot));
        return Math.floorMod(place, PLACES);
    }

    private int faultOf(int nights) {
        int fault = 0;
        for (int remainder = 0; remainder < nights; remainder++) {
            fault += lightRange(nights, remainder);
        }
        return fault;
    }

    private int lightRange(int nights, int remainder) {
        int least = MOST_LIGHT;
        int greatest = 0;
        for (int i = 0; i < looks.count; i++) {
            int dot = looks.dotAt(i);
            if (nights > 0 && sky.nightOf(dot) % nights == remainder) {
                least = Math.min(least, sky.lightOf(dot));
                greatest = Math.max(greatest, sky.lightOf(dot));
            }
        }
        return Math.max(0, greatest - least);
    }

    private static int bOf(int course) {
        return course / UNLIKE_C - MOST_B;
    }

    private static int cOf(int course) {
        return course % UNLIKE_C - MOST_C;
    }

    /** How far an orbit of a course is from its a in a night, not yet taken round the circle. */
    private static int drift(int course, int night) {
        return bOf(course) * night + cOf(course) * (night * (night - 1) / 2);
    }

    /**
     * The places of a stretch as bits: bit k is the place k behind a base, the stretch begins at 'behind'.
     * The bits of the first 19 places are right; no more are needed, as a look leaves no more places.
     */
    private static long stretch(int behind, int width) {
        long bits = (1L << width) - 1;
        int ahead = PLACES - behind;
        if (behind < 2 * MOST_ERROR + 1) {
            return bits << behind;
        }
        return ahead < width ? bits >> ahead : 0L;
    }

    /** Of 0 and a number it is that number, so that 0 by it becomes 0 by 1; of 0 and 0 it is 0. */
    private static int greatestDivisor(int one, int other) {
        int high = one;
        int low = other;
        for (int step = 0; step < 64 && low != 0; step++) {
            int rest = high % low;
            high = low;
            low = rest;
        }
        return high;
    }

    /** A row of numbers that is never touched beside its cells, whatever index it is asked for. */
    private static final class Row {
        private final int[] cells;

        Row(int length) {
            cells = new int[length > 0 ? length : 0];
        }

        int at(int index) {
            return index >= 0 && index < cells.length ? cells[index] : 0;
        }

        void put(int index, int value) {
            if (index >= 0 && index < cells.length) {
                cells[index] = value;
            }
        }

        void fill(int value) {
            for (int i = 0; i < cells.length; i++) {
                cells[i] = value;
            }
        }
    }

    private static final class Sky {
        private final Row errors = new Row(MOST_OBSERVATORIES);
        private final Row plateObservatories = new Row(MOST_PLATES);
        private final Row plateNights = new Row(MOST_PLATES);
        private final Row dotPlates = new Row(MOST_DOTS);
        private final Row dotPlaces = new Row(MOST_DOTS);
        private final Row dotLights = new Row(MOST_DOTS);
        private final Row shifts = new Row(ZONES);
        private int observatoryCount;
        private int plateCount;
        private int dotCount;

        int addObservatory(int error) {
            errors.put(observatoryCount, error);
            observatoryCount++;
            return observatoryCount - 1;
        }

        int addPlate(int observatory, int night) {
            plateObservatories.put(plateCount, observatory);
            plateNights.put(plateCount, night);
            plateCount++;
            return plateCount - 1;
        }

        int addDot(int plate, int place, int light) {
            dotPlates.put(dotCount, plate);
            dotPlaces.put(dotCount, place);
            dotLights.put(dotCount, light);
            dotCount++;
            return dotCount - 1;
        }

        int replaceShift(int zone, int shift) {
            int before = shifts.at(zone);
            shifts.put(zone, shift);
            return before;
        }

        int plateOf(int dot) {
            return dotPlates.at(dot);
        }

        int observatoryOf(int dot) {
            return plateObservatories.at(dotPlates.at(dot));
        }

        int errorOf(int dot) {
            return errors.at(plateObservatories.at(dotPlates.at(dot)));
        }

        int nightOf(int dot) {
            return plateNights.at(dotPlates.at(dot));
        }

        int lightOf(int dot) {
            return dotLights.at(dot);
        }

        int truePlaceOf(int dot) {
            int place = dotPlaces.at(dot);
            return Math.floorMod(place + shifts.at(place / ZONE_WIDTH), PLACES);
        }
    }

    private static final class Bodies {
        private final Row owners = new Row(MOST_DOTS);
        private final Row hosts = new Row(MOST_BODIES);
        private final Row joinTimes = new Row(MOST_BODIES);
        private final Row numbers = new Row(MOST_BODIES);
        private final Row properCourses = new Row(MOST_BODIES);
        private int count;
        private int joins;
        private int lastNumber;

        Bodies() {
            owners.fill(NONE);
            hosts.fill(NONE);
            numbers.fill(NONE);
        }

        int addBody(int dot) {
            own(count, dot);
            count++;
            return count - 1;
        }

        void own(int body, int dot) {
            owners.put(dot, body);
        }

        int ownerOf(int dot) {
            return owners.at(dot);
        }

        boolean isUnlinked(int dot) {
            return owners.at(dot) == NONE;
        }

        int countOwnDots(int body) {
            int dots = 0;
            for (int dot = 0; dot < MOST_DOTS; dot++) {
                if (owners.at(dot) == body) {
                    dots++;
                }
            }
            return dots;
        }

        boolean isLook(int dot, int body) {
            int holder = owners.at(dot);
            for (int step = 0; step < MOST_BODIES && holder != NONE && holder != body; step++) {
                holder = hosts.at(holder);
            }
            return holder == body;
        }

        int hostOf(int body) {
            return hosts.at(body);
        }

        boolean isFree(int body) {
            return hosts.at(body) == NONE;
        }

        void attach(int body, int host) {
            hosts.put(body, host);
            joins++;
            joinTimes.put(body, joins);
        }

        void free(int body) {
            hosts.put(body, NONE);
        }

        int countJoinedTo(int host) {
            int joined = 0;
            for (int body = 0; body < count; body++) {
                if (hosts.at(body) == host) {
                    joined++;
                }
            }
            return joined;
        }

        int latestJoinedTo(int host) {
            int latest = NONE;
            for (int body = 0; body < count; body++) {
                boolean isLater = latest == NONE || joinTimes.at(body) > joinTimes.at(latest);
                if (hosts.at(body) == host && isLater) {
                    latest = body;
                }
            }
            return latest;
        }

        int giveNumber(int body, int properCourse) {
            lastNumber++;
            numbers.put(body, lastNumber);
            properCourses.put(body, properCourse);
            return lastNumber;
        }

        int numberOf(int body) {
            return numbers.at(body);
        }

        int withNumber(int number) {
            for (int body = 0; body < count; body++) {
                if (numbers.at(body) == number) {
                    return body;
                }
            }
            return NONE;
        }

        int properCourseOf(int body) {
            return properCourses.at(body);
        }
    }

    private static final class Looks {
        private final Row dots = new Row(MOST_DOTS);
        private int count;

        void add(int dot) {
            dots.put(count, dot);
            count++;
        }

        int dotAt(int index) {
            return dots.at(index);
        }
    }

    /**
     * The orbits that fit some looks: for each course an arc of places a. One arc is enough, as a look leaves
     * no more than 19 places of 3600 in a row, and two rows as short as that share one row at the most.
     */
    private static final class Orbits {
        private final Row starts = new Row(COURSES);
        private final Row widths = new Row(COURSES);
        private final Row tallies = new Row(PLACES);

        void takeAll() {
            starts.fill(0);
            widths.fill(PLACES);
        }

        void keepNear(int night, int place, int error) {
            int width = 2 * error + 1;
            for (int course = 0; course < COURSES; course++) {
                int start = Math.floorMod(place - error - drift(course, night), PLACES);
                int before = widths.at(course);
                int behind = behind(course, start);
                widths.put(course, sharedWidth(before, behind, width));
                if (before == PLACES || behind < before) {
                    starts.put(course, start);
                }
            }
        }

        boolean hasNear(int night, int place, int error) {
            int width = 2 * error + 1;
            for (int course = 0; course < COURSES; course++) {
                int start = Math.floorMod(place - error - drift(course, night), PLACES);
                if (sharedWidth(widths.at(course), behind(course, start), width) > 0) {
                    return true;
                }
            }
            return false;
        }

        /** How many places on from the beginning of the arc a place is. */
        private int behind(int course, int place) {
            return Math.floorMod(place - starts.at(course), PLACES);
        }

        /** How much of an arc of a width another one leaves that begins at 'behind' in it, or behind it. */
        private static int sharedWidth(int width, int behind, int otherWidth) {
            if (width == PLACES) {
                return otherWidth;
            }
            if (behind < width) {
                return Math.min(width - behind, otherWidth);
            }
            int ahead = PLACES - behind;
            return Math.max(0, Math.min(width, otherWidth - ahead));
        }

        int startOf(int course) {
            return starts.at(course);
        }

        int widthOf(int course) {
            return widths.at(course);
        }

        int countOrbits() {
            int count = 0;
            for (int course = 0; course < COURSES; course++) {
                count += widths.at(course);
            }
            return count;
        }

        /** Tells the orbit at an index of their order as one number: its a times COURSES, and its course. */
        int orbitAt(int index) {
            tallyPlaces(0);
            int rest = index;
            for (int a = 0; a < PLACES; a++) {
                if (rest < tallies.at(a)) {
                    return a * COURSES + courseWith(a, rest);
                }
                rest -= tallies.at(a);
            }
            return 0;
        }

        private int courseWith(int a, int index) {
            int rest = index;
            for (int course = 0; course < COURSES; course++) {
                if (behind(course, a) < widths.at(course)) {
                    if (rest == 0) {
                        return course;
                    }
                    rest--;
                }
            }
            return 0;
        }

        int countPlaces(int night) {
            tallyPlaces(night);
            int count = 0;
            for (int place = 0; place < PLACES; place++) {
                if (tallies.at(place) > 0) {
                    count++;
                }
            }
            return count;
        }

        int placeAt(int night, int rank) {
            tallyPlaces(night);
            int rest = rank;
            for (int place = 0; place < PLACES; place++) {
                if (tallies.at(place) > 0) {
                    if (rest == 0) {
                        return place;
                    }
                    rest--;
                }
            }
            return NONE;
        }

        /** Leaves in tallies how many orbits are at each place in a night; in night 0 that place is their a. */
        private void tallyPlaces(int night) {
            tallies.fill(0);
            for (int course = 0; course < COURSES; course++) {
                int first = starts.at(course) + drift(course, night);
                for (int step = 0; step < widths.at(course); step++) {
                    int place = Math.floorMod(first + step, PLACES);
                    tallies.put(place, tallies.at(place) + 1);
                }
            }
        }
    }

    /** Counts the unlike paths of some orbits. Courses that can have paths in common are put into one group. */
    private static final class Paths {
        private final Row groupHeads = new Row(PLACES);
        private final Row nextInGroup = new Row(COURSES);
        private final Row lastGroupAt = new Row(PLACES);
        private int all;
        private int near;

        void countPaths(Orbits fitting, int from, int nights) {
            all = 0;
            near = 0;
            lastGroupAt.fill(NONE);
            makeGroups(from, nights);
            for (int group = 0; group < PLACES; group++) {
                int course = groupHeads.at(group);
                for (int step = 0; step < COURSES && course != NONE; step++) {
                    if (fitting.widthOf(course) > 0) {
                        countCourse(fitting, course, group, from, nights);
                    }
                    course = nextInGroup.at(course);
                }
            }
        }

        private void makeGroups(int from, int nights) {
            groupHeads.fill(NONE);
            for (int course = 0; course < COURSES; course++) {
                int group = groupOf(course, from, nights);
                nextInGroup.put(course, groupHeads.at(group));
                groupHeads.put(group, course);
            }
        }

        /**
         * Two paths in the same nights are alike if they begin at the same place and go on by the same steps.
         * The steps from night to night are b and c times the night: two of them tell c, and then b, so that
         * in three nights or more no two courses go alike; in one night all do, in two nights those of like step.
         */
        private static int groupOf(int course, int from, int nights) {
            if (nights > 2) {
                return course;
            }
            return Math.floorMod(drift(course, from + nights - 1) - drift(course, from), PLACES);
        }

        private void countCourse(Orbits fitting, int course, int group, int from, int nights) {
            long nearBits = nearBitsOf(course, fitting.startOf(course), from, nights);
            int first = fitting.startOf(course) + drift(course, from);
            for (int step = 0; step < fitting.widthOf(course); step++) {
                int place = Math.floorMod(first + step, PLACES);
                if (lastGroupAt.at(place) != group) {
                    lastGroupAt.put(place, group);
                    all++;
                    near += (int) (nearBits >> step & 1L);
                }
            }
        }

        /** Bit k tells of the orbit of the course with the a that is k on from the first one. */
        private static long nearBitsOf(int course, int firstA, int from, int nights) {
            long bits = 0L;
            for (int night = from; night < from + nights; night++) {
                int firstNear = EARTH_STEP * night - NEAR - drift(course, night);
                int behind = Math.floorMod(firstNear - firstA, PLACES);
                bits |= stretch(behind, 2 * NEAR + 1);
            }
            return bits;
        }
    }

    private static final class Kinship {
        private final Row lowestNumbers = new Row(MOST_BODIES);

        int lowestNumberWith(int body) {
            return lowestNumbers.at(body);
        }

        void findFamilies(Bodies bodies, int measure) {
            for (int body = 0; body < bodies.count; body++) {
                lowestNumbers.put(body, bodies.numberOf(body));
            }
            // A chain of akin bodies is shorter than the bodies are many, so the lowest number reaches its end.
            for (int round = 0; round < bodies.count; round++) {
                spreadLowest(bodies, measure);
            }
        }

        private void spreadLowest(Bodies bodies, int measure) {
            for (int one = 0; one < bodies.count; one++) {
                for (int other = 0; other < one; other++) {
                    if (areAkin(bodies, one, other, measure)) {
                        int lowest = Math.min(lowestNumbers.at(one), lowestNumbers.at(other));
                        lowestNumbers.put(one, lowest);
                        lowestNumbers.put(other, lowest);
                    }
                }
            }
        }

        private static boolean areAkin(Bodies bodies, int one, int other, int measure) {
            if (bodies.numberOf(one) == NONE || bodies.numberOf(other) == NONE) {
                return false;
            }
            int course = bodies.properCourseOf(one);
            int otherCourse = bodies.properCourseOf(other);
            int b = Math.abs(bOf(course) - bOf(otherCourse));
            int c = Math.abs(cOf(course) - cOf(otherCourse));
            return b + C_WEIGHT * c <= measure;
        }
    }
}
