/**
 * Runs of calls that mix the promises, each on one object: every answer was worked out by hand from the document,
 * and none comes from a program.
 */
final class Stories extends Calls {
    private Stories() {
    }

    static void all() {
        Due.noSentence();
        linksTakenAway();
        extentsBetweenWrites();
        spoiledAheadOfCopies();
        spoiledAndResized();
        fullFile();
    }

    private static void read(ArrayFile x, int object, int row, int... due) {
        for (int column = 0; column < due.length; column++) {
            Due.is("read(" + object + ", " + row + ", " + column + ")", due[column], x.read(object, row, column));
        }
    }

    private static void used(ArrayFile x, int bytes, int holes) {
        Due.is("bytes used", bytes, x.used(false));
        Due.is("rows of free bytes", holes, x.used(true));
    }

    private static void selectBlock(ArrayFile x, int which, int from, int rows, int columns) {
        x.clear(which);
        Due.is("slab", rows * columns, x.slab(which, from, rows, columns, 11));
    }

    private static void linksTakenAway() {
        ArrayFile x = new ArrayFile();
        Due.is("g", 1, group(x, "g"));
        Due.is("g/a", 2, array(x, "g/a", 202, 1, 22, 0, 0));
        Due.is("b", 3, array(x, "b", 102, 0, 12, 4, 5));
        Due.is("v", 4, view(x, "v", 202, -1));
        Due.is("write to a", 0, x.write(2, 0, 0, 300));
        Due.is("write to b", 5, x.write(3, 0, 1, 6));
        bytesAre("a and b", x, 0, 44, 1, 0, 0, 0, 0, 0, 0, 1, 5, 1, 6, -1);
        selectBlock(x, 0, 0, 2, 2);
        selectBlock(x, 1, 0, 2, 2);
        Due.is("map of a", 1, x.map(4, 2));
        selectBlock(x, 0, 0, 1, 2);
        selectBlock(x, 1, 100, 1, 2);
        Due.is("map of b", 2, x.map(4, 3));
        read(x, 4, 0, 300, 0);
        read(x, 4, 1, 5, 6);
        Due.is("soft", 4, soft(x, "s>g/a"));
        Due.is("through the soft link", 2, find(x, "s"));
        Due.is("ring", 2, link(x, "g/g", 1));
        Due.is("the ring stays", 0, unlink(x, "g"));
        Due.is("links to the ring", 1, x.object(1, 1));
        Due.is("soft link to a ring that no path leads to", -1, find(x, "s"));
        troubleIs("s", x, 1, 0, 1, 0);
        read(x, 4, 0, 300, 0);
        used(x, 12, 1);
        Due.is("the ring is tied again", 4, link(x, "r", 1));
        Due.is("through the ring", 2, find(x, "r/g/g/a"));
        Due.is("r/a", 1, unlink(x, "r/a"));
        used(x, 4, 2);
        read(x, 4, 0, -1, -1);
        read(x, 4, 1, 5, 6);
        Due.ioobe("map of what is gone", () -> x.map(4, 2));
        Due.ioobe("read of what is gone", () -> x.read(2, 0, 0));
        Due.is("r/b", 2, link(x, "r/b", 3));
        Due.is("b is held by r/b", 0, unlink(x, "b"));
        read(x, 4, 1, 5, 6);
        Due.is("the ring is cut", 0, unlink(x, "r/g"));
        Due.is("r and b", 2, unlink(x, "r"));
        used(x, 0, 1);
        read(x, 4, 1, -1, -1);
        Due.is("not bad", 0, x.bad(4, 1, 1));
        Due.is("numbers do not come again", 5, array(x, "b", 102, 0, 12, 4, 5));
        Due.is("write", 5, x.write(5, 0, 1, 6));
        read(x, 4, 1, -1, -1);
        bytesAre("the new b", x, 0, 1, 5, 1, 6, -1);
        Due.is("a third map", 3, x.map(4, 5));
        read(x, 4, 1, 5, 6);
    }

    private static void extentsBetweenWrites() {
        ArrayFile x = withArray(304, 0, 22, 4, 0);
        Due.is("v", 2, view(x, "v", 304, 9));
        selectBlock(x, 0, 0, 3, 4);
        selectBlock(x, 1, 0, 3, 4);
        Due.is("map", 1, x.map(2, 1));
        for (int cell = 0; cell < 4; cell++) {
            Due.is("seven", 0, x.write(1, cell / 2, cell % 2, 7));
        }
        bytesAre("four sevens", x, 0, 4, 7, -1);
        Due.is("write", 0, x.write(1, 0, 3, 1));
        Due.is("write", 0, x.write(1, 2, 2, 5));
        bytesAre("three chunks", x, 0, 4, 7, 1, 0, 1, 1, 2, 0, 1, 5, 3, 0, -1);
        Due.is("a chunk beyond, and one that is of fill values then", 10, x.resize(1, 203));
        Due.is("chunks", 1, x.object(1, 3));
        read(x, 2, 0, 7, 7, 0, 9);
        read(x, 2, 2, 9, 9, 9, 9);
        Due.ioobe("beyond", () -> x.read(1, 2, 2));
        Due.is("back", 0, x.resize(1, 304));
        read(x, 1, 2, 0, 0, 0, 0);
        read(x, 2, 0, 7, 7, 0, 0);
        Due.is("plain", 0, x.plain(1, 2, 2));
        Due.is("write", 0, x.write(1, 1, 2, 3));
        bytesAre("the second chunk", x, 2, 2, 0, 1, 3, 1, 0, -1);
        Due.is("six less, and six more", 0, x.resize(1, 301));
        bytesAre("broken runs", x, 0, 1, 7, 1, 0, 1, 7, 1, 0, -1);
        Due.is("one row", 4, x.resize(1, 101));
        bytesAre("the last cell", x, 0, 1, 7, 3, 0, -1);
        Due.is("all rows and columns", 0, x.resize(1, 2424));
        Due.is("the last cell of all", 0, x.write(1, 23, 23, -1));
        bytesAre("the last chunk", x, 4, 3, 0, 1, 255, -1);
        Due.is("its column is beyond", 4, x.resize(1, 2423));
        Due.iae("more than all", () -> x.resize(1, 2524));
        Due.ioobe("a view", () -> x.resize(2, 304));
        read(x, 2, 0, 7, 0, 0, 0);
        Due.is("write", 7, x.write(1, 0, 0, 0));
        used(x, 0, 1);
        for (int cell = 0; cell < 4; cell++) {
            Due.is("seven", 0, x.write(1, cell / 2, cell % 2, 7));
        }
        Due.is("six more", -6, x.resize(1, 301));
    }

    private static ArrayFile toSpoil() {
        ArrayFile x = withArray(104, 0, 12, 8, 0);
        Due.is("b", 2, array(x, "b", 104, 0, 14, 4, 0));
        Due.is("c", 3, array(x, "c", 202, 2, 11, 0, 0));
        Due.is("v", 4, view(x, "v", 204, -9));
        selectBlock(x, 0, 0, 1, 4);
        selectBlock(x, 1, 0, 1, 4);
        Due.is("map of a", 1, x.map(4, 1));
        selectBlock(x, 1, 100, 1, 4);
        Due.is("map of b", 2, x.map(4, 2));
        Due.is("write", 0, x.write(1, 0, 0, 10));
        Due.is("write", 0, x.write(1, 0, 1, 20));
        Due.is("write", 0, x.write(2, 0, 0, 1));
        bytesAre("a and b", x, 0, 10, 20, 30, 1, 1, 3, 0, -1);
        return x;
    }

    private static void spoiledAheadOfCopies() {
        ArrayFile x = toSpoil();
        Due.is("spoil", 1, x.spoil(1, 0, 1, 1));
        bytesAre("spoiled", x, 0, 10, 235, 30);
        Due.is("bad", 8, x.bad(1, 0, 0));
        Due.is("the other chunk is not", 0, x.bad(1, 0, 2));
        Due.is("nor is the other array", 0, x.bad(2, 0, 0));
        Due.is("bad by the view", 8, x.bad(4, 0, 1));
        Due.ise("read by the view", () -> x.read(4, 0, 1));
        Due.is("the view of the other chunk", 0, x.read(4, 0, 2));
        Due.is("plain", 20, x.plain(1, 0, 1));
        Due.ioobe("a cell beyond comes ahead of BAD", () -> x.copy(1, 2));
        selectBlock(x, 1, 0, 1, 4);
        Due.ise("from BAD", () -> x.copy(1, 2));
        Due.ise("to BAD", () -> x.copy(2, 1));
        Due.ise("from a view of BAD", () -> x.copy(4, 2));
        selectBlock(x, 0, 2, 1, 2);
        selectBlock(x, 1, 2, 1, 2);
        Due.is("beside BAD", 2, x.copy(2, 1));
        selectBlock(x, 0, 0, 1, 2);
        Due.is("a map of BAD", 3, x.map(4, 1));
        Due.is("bad by it", 8, x.bad(4, 0, 2));
        Due.is("the sum itself", 2, x.spoil(1, 0, 0, 2));
        Due.is("bad still", 8, x.bad(4, 0, 3));
        Due.is("turned back", 2, x.spoil(1, 0, 1, 2));
        Due.is("turned back", 1, x.spoil(1, 0, 0, 1));
        read(x, 4, 0, 10, 20, 10, 20);
        Due.is("a count", 3, x.spoil(2, 0, 3, 0));
        Due.is("bad", 4, x.bad(2, 0, 0));
        Due.is("bad by the view", 4, x.bad(4, 1, 0));
        Due.ise("a write to BAD", () -> x.write(2, 0, 3, 1));
        Due.is("turned back", 3, x.spoil(2, 0, 3, 0));
        read(x, 4, 1, 1, 0, 0, 0);
    }

    private static void spoiledAndResized() {
        ArrayFile x = toSpoil();
        Due.is("the byte of a run", 6, x.spoil(2, 0, 0, 3));
        read(x, 2, 0, 1, -1, -1, -1);
        read(x, 4, 1, 1, -1, -1, -1);
        Due.is("plain", 0, x.plain(2, 0, 1));
        selectBlock(x, 0, 0, 1, 4);
        selectBlock(x, 1, 0, 2, 2);
        Due.is("copy of what is spoiled", 4, x.copy(2, 3));
        bytesAre("c", x, 7, 1, 0, 0, 0, 255, 255, 255, 255, 255, 255, 255, 255, 255, 255, 255, 255, -1);
        Due.is("plain of the copy", -1, x.plain(3, 1, 1));
        Due.is("the chunk is kept anew", 1, x.write(2, 0, 0, -1));
        bytesAre("b", x, 3, 4, 255, -1, -1, 1);
        used(x, 21, 2);
        Due.is("plain still", 0, x.plain(2, 0, 1));
        Due.is("two runs", -2, x.resize(2, 102));
        bytesAre("b", x, 3, 2, 255, 2, 0, 1);
        Due.is("a count", 3, x.spoil(2, 0, 0, 0));
        Due.is("BAD stays", 0, x.resize(2, 101));
        bytesAre("b", x, 3, 253, 255, 2, 0, 1);
        Due.is("beyond", -9, x.read(4, 1, 1));
        Due.is("bad by the view", 4, x.bad(4, 1, 0));
        Due.is("turned back", 3, x.spoil(2, 0, 0, 0));
        Due.is("back", 0, x.resize(2, 104));
        read(x, 2, 0, -1, -1, 0, 0);
        Due.is("plain of what was beyond", 0, x.plain(2, 0, 1));
        Due.is("b is gone", 1, unlink(x, "b"));
        used(x, 19, 2);
        read(x, 4, 1, -9, -9, -9, -9);
        Due.is("copy of a by the view", 4, x.copy(4, 3));
        read(x, 3, 0, 10, 20);
        read(x, 3, 1, 0, 0);
        Due.is("chunks of zeros", 2, x.object(3, 3));
        used(x, 11, 1);
        bytesAre("each chunk moved to where b was", x, 3, 10, 0, 0, 0, 20, 0, 0, 0, -1);
    }

    private static void fullFile() {
        ArrayFile x = withArray(2424, 2, 88, 0, 0);
        Due.is("b", 2, array(x, "b", 2424, 0, 11, 0, 0));
        Due.is("v", 3, view(x, "v", 2424, 5));
        Due.is("r", 4, array(x, "r", 808, 0, 88, 4, 0));
        selectBlock(x, 0, 0, 8, 8);
        selectBlock(x, 1, 0, 8, 8);
        Due.is("fives", 64, x.copy(3, 4));
        bytesAre("fives", x, 0, 64, 5, -1);
        for (int chunk = 0; chunk < 5; chunk++) {
            Due.is("256 bytes", 0, x.write(1, chunk / 3 * 8, chunk % 3 * 8, 1));
        }
        used(x, 1282, 1);
        Due.ise("256 bytes more", () -> x.write(1, 8, 16, 1));
        selectBlock(x, 0, 0, 24, 24);
        selectBlock(x, 1, 0, 24, 24);
        Due.is("up to the first one without place", 218, x.copy(3, 2));
        used(x, 1500, 0);
        Due.is("chunks", 218, x.object(2, 3));
        read(x, 2, 9, 5, 5, 0);
        Due.is("plain", 0, x.plain(2, 9, 2));
        Due.ise("a byte more", () -> x.write(2, 23, 23, 1));
        Due.is("no byte more", 0, x.write(1, 0, 1, 7));
        Due.is("no byte more", 5, x.write(2, 9, 1, 6));
        Due.ise("32 bytes for 2", () -> x.resize(4, 807));
        Due.ise("4 bytes for 2", () -> x.resize(4, 708));
        Due.is("extents", 808, x.object(4, 2));
        read(x, 4, 7, 5, 5, 5, 5, 5, 5, 5, 5);
        Due.is("a byte less", 5, x.write(2, 0, 0, 0));
        Due.is("a byte less", 5, x.write(2, 0, 2, 0));
        used(x, 1498, 2);
        Due.ise("4 bytes in no row", () -> x.resize(4, 708));
        Due.is("a byte less", 5, x.write(2, 0, 1, 0));
        used(x, 1497, 1);
        Due.ise("4 bytes in a row of 3", () -> x.resize(4, 708));
        Due.is("a byte less", 5, x.write(2, 0, 3, 0));
        Due.is("4 bytes in a row of 4", -2, x.resize(4, 708));
        bytesAre("r", x, 1282, 56, 5, 8, 0, 5);
        used(x, 1498, 1);
        Due.is("where r was", 0, x.write(2, 23, 23, 9));
        bytesAre("where r was", x, 0, 9, -1);
        Due.is("a is gone", 1, unlink(x, "a"));
        used(x, 219, 1);
        Due.ioobe("gone", () -> x.read(1, 0, 0));
        Due.is("all", 576, x.copy(3, 2));
        used(x, 580, 2);
        bytesAre("each at the lowest place", x, 574, 5, 5, -1);
        bytesAre("r", x, 1281, -1, 56, 5, 8, 0, -1);
    }
}
