/** Desks that several tests begin with. */
final class Desks {
    private Desks() {
    }

    /** An observatory of the error; for each night and place a plate of its own, and on it a dot of the same number. */
    static Desk seen(int error, int... nightsAndPlaces) {
        Desk desk = new Desk();
        desk.observatory(error);
        for (int i = 0; i + 1 < nightsAndPlaces.length; i += 2) {
            int plate = desk.plate(0, nightsAndPlaces[i]);
            desk.dot(plate, nightsAndPlaces[i + 1], 0);
        }
        return desk;
    }

    /** The same, with all dots linked to body 0. */
    static Desk oneBody(int error, int... nightsAndPlaces) {
        Desk desk = seen(error, nightsAndPlaces);
        desk.body(0);
        for (int dot = 1; dot < nightsAndPlaces.length / 2; dot++) {
            desk.link(0, dot);
        }
        return desk;
    }

    /** The same, with each dot the own one of a body of the same number. */
    static Desk eachABody(int error, int... nightsAndPlaces) {
        Desk desk = seen(error, nightsAndPlaces);
        for (int dot = 0; dot < nightsAndPlaces.length / 2; dot++) {
            desk.body(dot);
        }
        return desk;
    }

    /**
     * Some of all that there can be: bodies 0 and 1 with the numbers 2 and 1, body 2 to which 3 is joined, to which 4
     * is joined, body 5 alone, the dots 10 to 12 unlinked, and a shift.
     */
    static Desk mixed() {
        Desk desk = new Desk();
        desk.observatory(0);
        desk.observatory(2);
        int[][] plates = {{0, 0}, {0, 1}, {0, 30}, {1, 0}, {1, 1}, {1, 2}, {1, 40}};
        for (int[] plate : plates) {
            desk.plate(plate[0], plate[1]);
        }
        int[][] dots = {{0, 100, 10}, {1, 105, 20}, {2, 250, 30}, {0, 2000, 1}, {1, 1997, 2}, {2, 1910, 3}, {3, 300, 50},
            {4, 305, 60}, {5, 310, 70}, {6, 3590, 5}, {6, 500, 99}, {3, 3599, 0}, {5, 0, 7}};
        for (int[] dot : dots) {
            desk.dot(dot[0], dot[1], dot[2]);
        }
        for (int dot : new int[] {0, 3, 6, 7, 8, 9}) {
            desk.body(dot);
        }
        desk.link(0, 1);
        desk.link(0, 2);
        desk.link(1, 4);
        desk.link(1, 5);
        desk.join(3, 4);
        desk.join(2, 3);
        desk.number(1);
        desk.number(0);
        desk.shift(8, 7);
        return desk;
    }

    /**
     * 6 observatories, 30 plates, 60 dots, 20 bodies: bodies 0 to 9 with three looks and a number each, 10 with 11 and
     * 12 joined to it, 13 to 19 alone; the dots 40 to 59 are unlinked.
     */
    static Desk full() {
        Desk desk = new Desk();
        for (int error : new int[] {0, 9, 1, 2, 3, 4}) {
            desk.observatory(error);
        }
        int[] nights = {0, 1, 30};
        for (int plate = 0; plate < 30; plate++) {
            desk.plate(plate < 3 ? 0 : plate % 6, plate < 3 ? nights[plate] : plate < 29 ? 40 + plate : 999);
        }
        for (int body = 0; body < 10; body++) {
            for (int plate = 0; plate < 3; plate++) {
                desk.dot(plate, 350 * body + body * nights[plate], 10 * plate + body);
            }
        }
        for (int dot = 30; dot < 60; dot++) {
            desk.dot(dot < 59 ? 3 + dot % 10 : 29, dot < 59 ? 1000 + dot % 10 : 3599, dot < 59 ? dot : 99);
        }
        for (int body = 0; body < 20; body++) {
            desk.body(body < 10 ? 3 * body : 20 + body);
        }
        for (int body = 0; body < 10; body++) {
            desk.link(body, 3 * body + 1);
            desk.link(body, 3 * body + 2);
            desk.number(body);
        }
        desk.join(10, 11);
        desk.join(10, 12);
        return desk;
    }
}
