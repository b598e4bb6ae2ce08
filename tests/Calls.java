/** Short forms of calls, for the tests that are written by hand: they type a line and then make the call. */
abstract class Calls {
    static final int MAX = 2147483647;
    static final int MIN = -2147483648;

    static int find(ArrayFile x, String line) {
        Due.type(x, line);
        return x.find();
    }

    static int group(ArrayFile x, String line) {
        Due.type(x, line);
        return x.group();
    }

    static int array(ArrayFile x, String line, int shape, int kind, int chunk, int filters, int fill) {
        Due.type(x, line);
        return x.array(shape, kind, chunk, filters, fill);
    }

    static int view(ArrayFile x, String line, int shape, int fill) {
        Due.type(x, line);
        return x.view(shape, fill);
    }

    static int link(ArrayFile x, String line, int object) {
        Due.type(x, line);
        return x.link(object);
    }

    static int soft(ArrayFile x, String line) {
        return link(x, line, ArrayFile.NONE);
    }

    static int unlink(ArrayFile x, String line) {
        Due.type(x, line);
        return x.unlink();
    }

    /** The trouble and its causes: the kind and the place of each level, and none behind. */
    static void troubleIs(String what, ArrayFile x, int... kindsAndPlaces) {
        int levels = kindsAndPlaces.length / 2;
        for (int i = 0; i < levels; i++) {
            Due.is(what + ", kind of level " + i, kindsAndPlaces[2 * i], x.trouble(i, false));
            Due.is(what + ", place of level " + i, kindsAndPlaces[2 * i + 1], x.trouble(i, true));
        }
        Due.is(what + ", kind behind the last level", -1, x.trouble(levels, false));
        Due.is(what + ", place behind the last level", -1, x.trouble(levels, true));
        Due.is(what + ", level of the largest int", -1, x.trouble(MAX, true));
    }

    static void bytesAre(String what, ArrayFile x, int place, int... due) {
        for (int i = 0; i < due.length; i++) {
            Due.is(what + ", byte " + i, due[i], x.fileAt(place + i));
        }
    }

    /** A new object with one array, number 1, named a. */
    static ArrayFile withArray(int shape, int kind, int chunk, int filters, int fill) {
        ArrayFile x = new ArrayFile();
        Due.is("array", 1, array(x, "a", shape, kind, chunk, filters, fill));
        return x;
    }

    static void select(ArrayFile x, int which, int from, int rows, int columns) {
        x.clear(which);
        x.slab(which, from, rows, columns, 11);
    }
}
