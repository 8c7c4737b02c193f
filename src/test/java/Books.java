/** Books to begin with. */
final class Books {
    private static final int NONE = BathBook.NONE;

    private Books() {
    }

    /**
     * A book that has something of everything, so that a change that should not be is seen.
     * ROWS: 0 of 4, one lost; 1 of none; 2 of 40; 3 to 5 missing. TABLES: 0 of 2 POINTS, 1 of 1, 2 full, 3 of none.
     * BULBS: 0 to 3 of their number's KIND, 4 a BULB without CERTIFICATES. CERTIFICATES: 0 to 4, of which 4 is VOID.
     * LABS: all DIFFERENCES among 0, 1 and 2 are told, and that of 3 to 4.
     */
    static BathBook busy() {
        BathBook x = new BathBook();
        fillRow(x, 0, 3, NONE, -5, 8);
        x.row(1, 0);
        x.row(2, 40);
        fillTable(x, 0, 0, 1, 3, 2);
        fillTable(x, 1, 5, -4);
        fillTable(x, 2, 0, 1, 1, 4, 3, 2, -7, 100);
        for (int kind = 0; kind < 4; kind++) {
            x.bulb(kind, 10 + 10 * kind);
        }
        x.bulb(0, 7);
        x.certify(3, NONE, 0, 10, 6, 2);
        x.certify(2, 3, 1, 20, -3, 4);
        x.certify(1, 2, 2, 30, 5, 5);
        x.certify(0, 1, 3, 40, 2, 6);
        x.certify(0, 3, 4, 50, 9, 1);
        x.wrong(4, 50, 50);
        fillLabs(x);
        findSome(x);
        return x;
    }

    private static void fillLabs(BathBook x) {
        x.lab(0, 1, 10, 1);
        x.lab(1, 2, -4, 2);
        x.lab(2, 0, -5, 3);
        x.lab(3, 4, 8, 4);
    }

    /** Every FINDING at least once, UNLIKE last, and at last an asked() of 6 and a fraction of -5/3. */
    private static void findSome(BathBook x) {
        x.tear(3);
        x.tear(4);
        x.row(3, -1);
        x.mean(1);
        x.lay(1, 0, 0);
        x.mark(1, 2);
        x.offset(0);
        x.currents(2, 0, 2, 5, 4);
    }

    static BathBook withRow(int... readings) {
        BathBook x = new BathBook();
        fillRow(x, 0, readings);
        return x;
    }

    static void fillRow(BathBook x, int r, int... readings) {
        x.row(r, readings.length);
        for (int i = 0; i < readings.length; i++) {
            x.lay(r, i, readings[i]);
        }
    }

    /** Each x with its y behind it. */
    static void fillTable(BathBook x, int table, int... points) {
        x.clear(table);
        for (int i = 0; i + 1 < points.length; i += 2) {
            x.point(table, points[i], points[i + 1]);
        }
    }

    /** BULBS of KIND 0 with these TOLERANCES. */
    static BathBook withBulbs(int... tolerances) {
        BathBook x = new BathBook();
        for (int tolerance : tolerances) {
            x.bulb(0, tolerance);
        }
        return x;
    }

    /** BULB 0 is a BULB, 1 a GLASS, 2 a COIL, 3 a MASTER. */
    static BathBook ofEachKind() {
        BathBook x = new BathBook();
        for (int kind = 0; kind < 4; kind++) {
            x.bulb(kind, 10 * kind);
        }
        return x;
    }
}
