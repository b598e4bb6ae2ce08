/** The sentences on extents that grow and shrink that name a boundary case (promises 13 and 15). */
final class ExtentBoundaries extends Calls {
    private ExtentBoundaries() {
    }

    /** One row or column of 24 cells, the numbers 1 to 24, in chunks of 8. */
    private static ArrayFile strip(boolean isRow) {
        ArrayFile x = isRow ? withArray(124, 0, 18, 0, 50) : withArray(2401, 0, 81, 0, 50);
        for (int i = 0; i < 24; i++) {
            x.write(1, isRow ? 0 : i, isRow ? i : 0, i + 1);
        }
        return x;
    }

    private static void oneSide(boolean isRow) {
        for (int length = 1; length <= 24; length++) {
            ArrayFile x = strip(isRow);
            int chunks = (length + 7) / 8;
            int shape = isRow ? 100 + length : 100 * length + 1;
            Due.is("less by chunks", 24 - 8 * chunks, x.resize(1, shape));
            Due.is("extents", shape, x.object(1, 2));
            Due.is("no chunk beyond is kept", chunks, x.object(1, 3));
            Due.is("bytes", 8 * chunks, x.used(false));
            Due.is("the last byte of the last chunk", length % 8 == 0 ? length : 50, x.fileAt(8 * chunks - 1));
            Due.is("the last cell's byte", length, x.fileAt(length - 1));
            int next = length;
            if (length < 24) {
                Due.ioobe("beyond", () -> x.read(1, isRow ? 0 : next, isRow ? next : 0));
            }
            Due.is("none less by more extents", 0, x.resize(1, isRow ? 124 : 2401));
            for (int i = 0; i < 24; i++) {
                int row = isRow ? 0 : i;
                int column = isRow ? i : 0;
                Due.is("cell " + i + " of " + length, i < length ? i + 1 : 50, x.read(1, row, column));
                Due.is("plain " + i + " of " + length, i < length ? i + 1 : 50, x.plain(1, row, column));
            }
        }
    }

    private static void cells() {
        Due.says("When an array has other extents, more or less ones, cells that are beyond are gone; they are the fill"
                + " value, if they come back");
        oneSide(true);
        oneSide(false);
        ArrayFile x = withArray(404, 0, 33, 15, 9);
        for (int i = 0; i < 16; i++) {
            x.write(1, i / 4, i % 4, i + 20);
        }
        x.resize(1, 304);
        x.resize(1, 403);
        for (int i = 0; i < 12; i++) {
            int row = i / 3;
            int column = i % 3;
            Due.is("one row less, then one column", row < 3 ? 20 + 4 * row + column : 9, x.read(1, row, column));
        }
        x.resize(1, 2424);
        for (int i = 0; i < 16; i++) {
            int due = i / 4 < 3 && i % 4 < 3 ? 20 + i : 9;
            Due.is("then all", due, x.read(1, i / 4, i % 4));
            Due.is("then all, plain", due, x.plain(1, i / 4, i % 4));
        }
        Due.is("one of four chunks is left", 1, x.object(1, 3));
        Due.is("new cells", 9, x.read(1, 23, 23));
        Due.is("that can be written", 9, x.write(1, 23, 23, 1));
        Due.is("two chunks", 2, x.object(1, 3));
        Due.is("to one cell", 1, x.resize(1, 101) > 0 ? 1 : 0);
        Due.is("one chunk", 1, x.object(1, 3));
        Due.is("the cell", 20, x.read(1, 0, 0));
    }

    /** Chunks of two cells at the places 2 and 4, ahead of them a hole of two bytes. */
    private static ArrayFile behindHole(int... numbers) {
        ArrayFile x = withArray(104, 0, 12, 0, 0);
        array(x, "b", 102, 0, 12, 0, 0);
        x.write(2, 0, 0, 1);
        for (int i = 0; i < numbers.length; i++) {
            x.write(1, 0, i, numbers[i]);
        }
        x.write(2, 0, 0, 0);
        return x;
    }

    private static void partlyBeyond() {
        Due.says("those partly beyond .. are kept anew, if they have a cell beyond that is not the fill value");
        ArrayFile x = behindHole(1, 2, 3, 4);
        bytesAre("a hole of two", x, 0, -1, -1, 1, 2, 3, 4, -1);
        Due.is("the last column goes", 0, x.resize(1, 103));
        bytesAre("kept anew", x, 0, 3, 0, 1, 2, -1, -1, -1);
        ArrayFile y = behindHole(1, 2, 3, 0);
        Due.is("the last column goes, of the fill value", 0, y.resize(1, 103));
        bytesAre("not kept anew", y, 0, -1, -1, 1, 2, 3, 0, -1);
        ArrayFile z = behindHole(1, 2, 3, 4);
        Due.is("a chunk goes, the other one is not partly beyond", 2, z.resize(1, 102));
        bytesAre("not kept anew", z, 0, -1, -1, 1, 2, -1, -1, -1);
        ArrayFile w = behindHole(1, 2, 0, 4);
        Due.is("only the fill value is left", 2, w.resize(1, 103));
        bytesAre("not kept", w, 0, -1, -1, 1, 2, -1, -1, -1);
        Due.is("one chunk", 1, w.object(1, 3));
        ArrayFile v = behindHole(1, 2, 3, 4);
        Due.is("more rows, with chunks of one row", 0, v.resize(1, 204));
        Due.is("more columns", 0, v.resize(1, 224));
        bytesAre("not kept anew", v, 0, -1, -1, 1, 2, 3, 4, -1);
        Due.is("back", 0, v.resize(1, 103));
        bytesAre("kept anew", v, 0, 3, 0, 1, 2, -1, -1, -1);
        Due.is("the same again", 0, v.resize(1, 103));
        bytesAre("not kept anew", v, 0, 3, 0, 1, 2, -1, -1, -1);
        Due.is("one row beyond is enough", 1, twoRows() == 2 ? 1 : 0);
    }

    private static int twoRows() {
        ArrayFile x = withArray(201, 0, 21, 0, 0);
        array(x, "b", 101, 0, 11, 0, 0);
        x.write(2, 0, 0, 9);
        x.write(1, 0, 0, 1);
        x.write(1, 1, 0, 2);
        x.write(2, 0, 0, 0);
        bytesAre("behind a hole of one", x, 0, -1, 1, 2, -1);
        Due.is("as many bytes", 0, x.resize(1, 101));
        bytesAre("kept anew", x, 0, 1, 0, -1, -1);
        return x.used(false);
    }

    private static void order() {
        Due.says("those partly beyond, by rows and then by columns, are kept anew");
        ArrayFile y = withArray(606, 0, 44, 0, 0);
        y.write(1, 5, 5, 4);
        y.write(1, 4, 0, 3);
        y.write(1, 5, 0, 3);
        y.write(1, 0, 4, 2);
        y.write(1, 0, 5, 2);
        y.write(1, 0, 0, 1);
        int[] first = {y.spoil(1, 0, 0, 0), y.spoil(1, 0, 4, 0), y.spoil(1, 4, 0, 0), y.spoil(1, 4, 4, 0)};
        int[] due = {48, 32, 16, 0};
        for (int i = 0; i < 4; i++) {
            Due.is("place of chunk " + i, due[i], first[i]);
            y.spoil(1, i / 2 * 4, i % 2 * 4, 0);
        }
        Due.is("the last chunk is fill then, and goes", 16, y.resize(1, 505));
        Due.is("the first one is not beyond", 48, y.spoil(1, 0, 0, 0));
        Due.is("the second one stays: what goes behind it is not free yet", 32, y.spoil(1, 0, 4, 0));
        Due.is("the third one stays", 16, y.spoil(1, 4, 0, 0));
    }

    private static void beyondFirst() {
        Due.says("No chunk beyond is kept; those partly beyond .. are kept anew");
        ArrayFile x = withArray(106, 0, 12, 0, 0);
        x.write(1, 0, 5, 1);
        x.write(1, 0, 2, 2);
        x.write(1, 0, 3, 3);
        bytesAre("the one beyond is lower", x, 0, 0, 1, 2, 3, -1);
        Due.is("two less", 2, x.resize(1, 103));
        bytesAre("its place is free for the other one", x, 0, 2, 0, -1, -1, -1);
        ArrayFile y = withArray(601, 0, 21, 0, 0);
        y.write(1, 5, 0, 1);
        y.write(1, 2, 0, 2);
        y.write(1, 3, 0, 3);
        Due.is("two less", 2, y.resize(1, 301));
        bytesAre("rows likewise", y, 0, 2, 0, -1, -1, -1);
        ArrayFile z = withArray(404, 0, 22, 0, 0);
        z.write(1, 3, 3, 9);
        z.write(1, 0, 2, 5);
        z.write(1, 1, 3, 5);
        Due.is("a chunk beyond in a later row", 4, z.resize(1, 203));
        bytesAre("its place is free for one of an earlier row", z, 0, 5, 0, 0, 0, -1);
    }

    private static void rowsAheadOfColumns() {
        Due.says("by rows and then by columns");
        ArrayFile x = withArray(404, 0, 22, 4, 0);
        array(x, "b", 124, 0, 11, 0, 0);
        x.write(2, 0, 0, 99);
        x.write(2, 0, 1, 98);
        x.write(1, 0, 2, 5);
        x.write(1, 1, 3, 5);
        x.write(1, 2, 0, 6);
        x.write(1, 3, 1, 6);
        bytesAre("two chunks", x, 0, 99, 98, 1, 5, 2, 0, 1, 5, 1, 6, 2, 0, 1, 6, -1);
        x.write(2, 0, 0, 0);
        x.write(2, 0, 1, 0);
        Due.is("both of four bytes then", 4, x.resize(1, 303));
        bytesAre("that of the first row at 0, the other one behind it", x, 0, 1, 5, 3, 0, 1, 6, 3, 0, -1);
        ArrayFile y = withArray(104, 0, 22, 4, 0);
        y.resize(1, 404);
        array(y, "b", 124, 0, 11, 0, 0);
        y.write(1, 2, 0, 6);
        y.write(1, 3, 1, 6);
        y.write(1, 2, 2, 7);
        y.write(1, 3, 3, 7);
        y.write(1, 0, 2, 5);
        y.write(1, 1, 3, 5);
        bytesAre("three chunks", y, 0, 1, 6, 2, 0, 1, 6, 1, 7, 2, 0, 1, 7, 1, 5, 2, 0, 1, 5, -1);
        Due.is("all of four bytes then", 6, y.resize(1, 303));
        bytesAre("first row: no place lower; second row by columns", y, 0, 1, 6, 3, 0, 1, 7, 3, 0, -1, -1, -1, -1, 1, 5,
                3, 0, -1);
    }

    // ---- spoiled chunks

    private static void badOnes() {
        Due.says("BAD ones stay as they are");
        ArrayFile x = behindBadHole();
        Due.is("partly beyond", 0, x.resize(1, 103));
        bytesAre("where it was, as it was", x, 3, 252, 4, 7, -1);
        Due.is("BAD", 8, x.bad(1, 0, 2));
        Due.is("back", 0, x.resize(1, 104));
        Due.is("plain is the fill value", 0, x.plain(1, 0, 3));
        Due.is("plain of the other cell", 3, x.plain(1, 0, 2));
        Due.is("turned back", 3, x.spoil(1, 0, 2, 0));
        Due.is("as it is read", 4, x.read(1, 0, 3));
        Due.is("as it is read", 3, x.read(1, 0, 2));
        Due.is("plain stays", 0, x.plain(1, 0, 3));
        Due.is("written before: as it is read", 4, x.write(1, 0, 3, 5));
        Due.is("plain is as it was written last", 5, x.plain(1, 0, 3));
        ArrayFile y = behindBadHole();
        Due.is("beyond: not kept", 3, y.resize(1, 102));
        Due.is("no chunk", 0, y.object(1, 3));
        y.resize(1, 104);
        Due.is("not BAD when it comes back", 0, y.bad(1, 0, 2));
        Due.is("but fill", 0, y.read(1, 0, 3));
        ArrayFile z = withArray(102, 0, 12, 4, 0);
        z.write(1, 0, 0, 5);
        z.write(1, 0, 1, 6);
        z.spoil(1, 0, 0, 0);
        Due.is("BAD for 4", 0, z.resize(1, 101));
        bytesAre("as it was", z, 0, 254, 5, 1, 6, -1);
    }

    /** A hole of three bytes, then the chunk of the cells 0, 2 and 0, 3 of an array: 3, 4 and the sum; it is BAD. */
    private static ArrayFile behindBadHole() {
        ArrayFile x = withArray(104, 0, 12, 8, 0);
        x.write(1, 0, 0, 1);
        x.write(1, 0, 2, 3);
        x.write(1, 0, 3, 4);
        x.write(1, 0, 0, 0);
        Due.is("behind a hole", 3, x.spoil(1, 0, 2, 0));
        return x;
    }

    private static void spoiledOnes() {
        Due.says("(in a chunk of which a byte was spoiled: as it is read)");
        ArrayFile x = withArray(101, 0, 12, 0, 0);
        x.write(1, 0, 0, 5);
        x.spoil(1, 0, 0, 1);
        Due.is("a cell that was never within", 0, x.resize(1, 102));
        Due.is("as it is read", -1, x.read(1, 0, 1));
        Due.is("plain", 0, x.plain(1, 0, 1));
        ArrayFile y = withArray(102, 0, 12, 0, 0);
        y.write(1, 0, 0, 5);
        y.write(1, 0, 1, -1);
        y.spoil(1, 0, 1, 1);
        bytesAre("spoiled to the fill value", y, 0, 5, 0, -1);
        Due.is("not kept anew: it is read as the fill value", 0, y.resize(1, 101));
        y.resize(1, 102);
        Due.is("as it is read", 0, y.read(1, 0, 1));
        y.spoil(1, 0, 1, 1);
        Due.is("as it is read", -1, y.read(1, 0, 1));
        Due.is("plain", 0, y.plain(1, 0, 1));
        ArrayFile z = withArray(102, 0, 14, 0, 0);
        z.write(1, 0, 0, 5);
        z.spoil(1, 0, 0, 2);
        z.spoil(1, 0, 0, 3);
        Due.is("more extents: one is partly beyond yet", 0, z.resize(1, 103));
        bytesAre("kept anew: the cell beyond is the fill value", z, 0, 5, 0, 255, 0, -1);
        Due.is("the cell within as it is read", -1, z.read(1, 0, 2));
        Due.is("and as it was written", 0, z.plain(1, 0, 2));
        z.spoil(1, 0, 0, 3);
        Due.is("more extents: none is beyond", 0, z.resize(1, 104));
        Due.is("as it is read", -1, z.read(1, 0, 3));
    }

    // ---- places

    /** A chunk of four like cells in two bytes, with so many bytes free behind; others ahead of it, or behind. */
    private static ArrayFile nearlyFull(int free, boolean isLast) {
        ArrayFile x = withArray(202, 0, 22, 4, 0);
        array(x, "b", 2424, 2, 88, 0, 0);
        array(x, "c", 824, 0, 88, 0, 0);
        array(x, "d", 303, 0, 11, 0, 0);
        array(x, "e", 424, 0, 11, 0, 0);
        if (!isLast) {
            fourCells(x);
        }
        for (int i = 0; i < 5; i++) {
            x.write(2, i / 3 * 8, i % 3 * 8, 1);
        }
        for (int i = 0; i < 3; i++) {
            x.write(3, 0, 8 * i, 1);
        }
        for (int i = 0; i < 26 - free; i++) {
            x.write(5, i / 24, i % 24, 1);
        }
        if (isLast) {
            fourCells(x);
        }
        Due.is("free bytes", 1500 - free, x.used(false));
        return x;
    }

    private static void fourCells(ArrayFile x) {
        for (int i = 0; i < 4; i++) {
            x.write(1, i / 2, i % 2, 7);
        }
    }

    private static void noPlace() {
        Due.says("IllegalStateException if the file has no place for a chunk that is to be kept anew");
        for (int shape : new int[] {201, 101}) {
            int length = shape == 201 ? 8 : 4;
            ArrayFile x = nearlyFull(length, false);
            Due.is("just enough free", 2 - length, x.resize(1, shape));
            Due.is("at the end", 1500 - length, x.spoil(1, 0, 0, 0));
            Refused.ise("one less", () -> nearlyFull(length - 1, false), y -> y.resize(1, shape));
            ArrayFile z = nearlyFull(length - 2, true);
            Due.is("its own two bytes, and the rest free", 2 - length, z.resize(1, shape));
            Due.is("full", 1500, z.used(false));
            Due.is("at the end", 1500 - length, z.spoil(1, 0, 0, 0));
        }
        Refused.ise("its own two bytes, and one less", () -> nearlyFull(5, true), y -> y.resize(1, 201));
        Refused.iae("shape comes first", () -> nearlyFull(3, false), y -> y.resize(1, 100));
        Due.is("more extents need no place", 0, nearlyFull(0, false).resize(1, 2424));
        Due.is("the same need none", 0, nearlyFull(0, false).resize(1, 202));
        for (int ones : new int[] {10, 3}) {
            Refused.ise("the chunk beyond has gone, the next one has moved, and the one behind it has no place",
                    () -> threeChunks(ones), y -> y.resize(1, 501));
        }
        ArrayFile w = threeChunks(2);
        Due.is("two of eight bytes, one of four", 10 - 20, w.resize(1, 501));
        bytesAre("the last one at the lowest place", w, 0, 1, 7, 3, 0, -1);
        Due.is("the first one", 1484, w.spoil(1, 0, 0, 0));
        Due.is("the second one", 1492, w.spoil(1, 2, 0, 0));
    }

    /** Three chunks of like cells, of two bytes, one beside them, and 18 bytes free less so many ones. */
    private static ArrayFile threeChunks(int ones) {
        ArrayFile x = withArray(604, 0, 22, 4, 0);
        array(x, "b", 2424, 2, 88, 0, 0);
        array(x, "c", 824, 0, 88, 0, 0);
        array(x, "d", 124, 0, 11, 0, 0);
        for (int i = 0; i < 12; i++) {
            x.write(1, i / 2, i % 2, 7);
        }
        x.write(1, 0, 3, 7);
        x.write(1, 0, 2, 7);
        for (int i = 0; i < 5; i++) {
            x.write(2, i / 3 * 8, i % 3 * 8, 1);
        }
        for (int i = 0; i < 3; i++) {
            x.write(3, 0, 8 * i, 1);
        }
        for (int i = 0; i < ones; i++) {
            x.write(4, 0, i, 1);
        }
        Due.is("bytes", 10, x.object(1, 4));
        return x;
    }

    private static void lessBytes() {
        Due.says("Returns how many bytes are used less by that (below 0: more).");
        Due.is("six more", -6, nearlyFull(20, false).resize(1, 201));
        Due.is("two more", -2, nearlyFull(20, false).resize(1, 102));
        Due.is("none", 0, nearlyFull(20, false).resize(1, 303));
        ArrayFile x = withArray(303, 0, 22, 8, 0);
        Due.is("of nothing", 0, x.resize(1, 101));
        x.resize(1, 303);
        x.write(1, 2, 2, 1);
        x.write(1, 0, 0, 1);
        Due.is("one of two chunks", 5, x.resize(1, 202));
        x.write(1, 1, 1, 1);
        x.write(1, 0, 0, 0);
        Due.is("the last one, all fill then", 5, x.resize(1, 101));
        Due.is("none is kept", 0, x.object(1, 3));
        Due.is("no byte is used", 0, x.used(false));
    }

    static void all() {
        cells();
        partlyBeyond();
        order();
        beyondFirst();
        rowsAheadOfColumns();
        badOnes();
        spoiledOnes();
        noPlace();
        lessBytes();
        Due.noSentence();
    }
}
