/** The sentences on arrays, chunks, filters and the file that name a boundary case (promises 5, 10 to 15, 21, 22). */
final class CellBoundaries extends Calls {
    private static final int[] LEAST = {-128, 0, MIN};
    private static final int[] GREATEST = {127, 65535, MAX};

    private CellBoundaries() {
    }

    /** Writes numbers to the cells of one row, from the first one on. */
    private static void writeRow(ArrayFile x, int object, int row, int... numbers) {
        for (int i = 0; i < numbers.length; i++) {
            x.write(object, row, i, numbers[i]);
        }
    }

    /** Gives all cells of an array one number, by a view of that fill value, number last. */
    private static ArrayFile filledWith(int shape, int kind, int chunk, int filters, int number) {
        ArrayFile x = withArray(shape, kind, chunk, filters, number == 0 ? 1 : 0);
        view(x, "v", shape, number);
        select(x, 0, 0, shape / 100, shape % 100);
        select(x, 1, 0, shape / 100, shape % 100);
        Due.is("cells filled", shape / 100 * (shape % 100), x.copy(2, 1));
        return x;
    }

    // ---- arguments

    private static void extents() {
        Due.says("An array has cells in rows and columns, 1 to 24 each");
        int[] wrong = {0, 1, 24, 25, 100, 125, 199, 2400, 2425, 2500, 2501, 2524, 2525, -1, -101, -2424, -100, 10101,
            MAX, MIN, MIN + 1};
        for (int shape : wrong) {
            Refused.iae("array of " + shape, ArrayFile::new, x -> array(x, "a", shape, 0, 11, 0, 0));
            Refused.iae("view of " + shape, ArrayFile::new, x -> view(x, "a", shape, 0));
            Refused.iae("resize to " + shape, CellBoundaries::oneChunk, x -> x.resize(1, shape));
        }
        for (int shape : new int[] {101, 102, 124, 201, 2401, 2402, 2423, 2324, 2424}) {
            ArrayFile x = withArray(shape, 1, 88, 5, 9);
            view(x, "v", shape, 8);
            array(x, "b", 505, 1, 88, 5, 9);
            x.resize(3, shape);
            for (int object = 1; object <= 3; object++) {
                Due.is("shape", shape, x.object(object, 2));
                edgesOf(x, object, shape / 100, shape % 100);
            }
        }
    }

    /** The cells of the corners can be read, and those one further cannot. */
    private static void edgesOf(ArrayFile x, int object, int rows, int columns) {
        int fill = object == 2 ? 8 : 9;
        int[][] within = {{0, 0}, {rows - 1, 0}, {0, columns - 1}, {rows - 1, columns - 1}};
        for (int[] cell : within) {
            Due.is("cell", fill, x.read(object, cell[0], cell[1]));
            Due.is("cell", 0, x.bad(object, cell[0], cell[1]));
        }
        int[][] beyond = {{-1, 0}, {0, -1}, {rows, 0}, {0, columns}, {rows, columns}, {rows - 1, columns},
            {rows, columns - 1}, {MAX, 0}, {0, MAX}, {MIN, 0}, {0, MIN}, {rows, -1}};
        for (int[] cell : beyond) {
            Due.ioobe("read beyond", () -> x.read(object, cell[0], cell[1]));
            Due.ioobe("bad beyond", () -> x.bad(object, cell[0], cell[1]));
            Due.ioobe("plain beyond", () -> x.plain(object, cell[0], cell[1]));
            Due.ioobe("write beyond", () -> x.write(object, cell[0], cell[1], 3));
            Due.ioobe("write beyond, and no number of the kind", () -> x.write(object, cell[0], cell[1], -3));
            Due.ioobe("spoil beyond", () -> x.spoil(object, cell[0], cell[1], 0));
        }
    }

    /** An array of 2 x 2, number 1, of one chunk with a sum, a group and a view. */
    private static ArrayFile oneChunk() {
        ArrayFile x = withArray(202, 0, 22, 8, 0);
        writeRow(x, 1, 0, 1, 2);
        group(x, "g");
        view(x, "v", 202, 0);
        return x;
    }

    private static void wrongObjects() {
        Due.says("IndexOutOfBoundsException: there is no such object (or it is gone), or cell.");
        for (int object : new int[] {0, 2, 3, 4, 29, 30, -1, MAX, MIN}) {
            Refused.ioobe("write to " + object, CellBoundaries::oneChunk, x -> x.write(object, 0, 0, 0));
            Refused.ioobe("plain of " + object, CellBoundaries::oneChunk, x -> x.plain(object, 0, 0));
            Refused.ioobe("spoil of " + object, CellBoundaries::oneChunk, x -> x.spoil(object, 0, 0, 0));
            Refused.ioobe("resize of " + object, CellBoundaries::oneChunk, x -> x.resize(object, 101));
            Refused.ioobe("resize of " + object + " to no shape", CellBoundaries::oneChunk, x -> x.resize(object, 0));
            if (object != 3) {
                Refused.ioobe("read of " + object, CellBoundaries::oneChunk, x -> x.read(object, 0, 0));
                Refused.ioobe("bad of " + object, CellBoundaries::oneChunk, x -> x.bad(object, 0, 0));
            }
        }
        ArrayFile x = oneChunk();
        x.spoil(1, 0, 0, 0);
        Due.ioobe("a cell beyond comes ahead of BAD, read", () -> x.read(1, 2, 0));
        Due.ioobe("a cell beyond comes ahead of BAD, write", () -> x.write(1, 2, 0, 0));
        Due.iae("no number of the kind comes ahead of BAD", () -> x.write(1, 0, 0, 128));
        Due.ise("BAD", () -> x.write(1, 0, 0, 127));
    }

    private static void kinds() {
        Due.says("a kind: 0 numbers from -128 to 127, of a byte, 1 from 0 to 65535, of two bytes, 2 all ints, of four");
        for (int kind : new int[] {-1, 3, 4, MAX, MIN}) {
            Refused.iae("kind " + kind, ArrayFile::new, x -> array(x, "a", 101, kind, 11, 0, 0));
        }
        for (int i = 0; i < 3; i++) {
            int kind = i;
            for (int number : new int[] {LEAST[kind], LEAST[kind] + 1, 1, GREATEST[kind] - 1, GREATEST[kind]}) {
                ArrayFile x = withArray(101, kind, 11, 0, number);
                Due.is("fill of kind " + kind, number, x.read(1, 0, 0));
                Due.is("plain fill of kind " + kind, number, x.plain(1, 0, 0));
                for (int filters = 0; filters < 16; filters++) {
                    int other = number == 7 ? 8 : 7;
                    ArrayFile y = withArray(102, kind, 12, filters, other);
                    Due.is("write of kind " + kind, other, y.write(1, 0, 0, number));
                    Due.is("read of kind " + kind, number, y.read(1, 0, 0));
                    Due.is("plain of kind " + kind, number, y.plain(1, 0, 0));
                    Due.is("the other cell", other, y.read(1, 0, 1));
                }
            }
        }
        for (int i = 0; i < 2; i++) {
            int kind = i;
            for (int number : new int[] {LEAST[kind] - 1, GREATEST[kind] + 1, MIN, MAX}) {
                Refused.iae("fill " + number, ArrayFile::new, x -> array(x, "a", 101, kind, 11, 0, number));
                Refused.iae("write " + number, () -> withArray(101, kind, 11, 0, 5), x -> x.write(1, 0, 0, number));
            }
        }
        Due.says("each the lowest byte first");
        ArrayFile x = withArray(104, 0, 14, 0, 0);
        writeRow(x, 1, 0, -128, 127, -1, 1);
        bytesAre("kind 0", x, 0, 128, 127, 255, 1, -1);
        ArrayFile y = withArray(104, 1, 14, 0, 0);
        writeRow(y, 1, 0, 65535, 256, 255, 32768);
        bytesAre("kind 1", y, 0, 255, 255, 0, 1, 255, 0, 0, 128, -1);
        ArrayFile z = withArray(104, 2, 14, 0, 0);
        writeRow(z, 1, 0, MIN, MAX, -1, 0x01020304);
        bytesAre("kind 2", z, 0, 0, 0, 0, 128, 255, 255, 255, 127, 255, 255, 255, 255, 4, 3, 2, 1, -1);
    }

    private static void chunks() {
        Due.says("chunks of 1 to 8 rows and 1 to 8 columns, laid from the cell 0, 0 on");
        int[] wrong = {0, 1, 8, 10, 19, 80, 81 + 10, 89, 90, 98, 99, 100, 101, 111, 180, 811, -1, -11, -88, MAX, MIN};
        for (int chunk : wrong) {
            Refused.iae("chunk " + chunk, ArrayFile::new, x -> array(x, "a", 101, 0, chunk, 0, 0));
        }
        for (int chunk : new int[] {11, 12, 18, 21, 81, 33, 78, 87, 88}) {
            int rows = chunk / 10;
            int columns = chunk % 10;
            ArrayFile x = withArray(2424, 0, chunk, 0, 0);
            x.write(1, 0, 0, 1);
            Due.is("bytes of a chunk " + chunk, rows * columns, x.used(false));
            x.write(1, rows - 1, columns - 1, 2);
            Due.is("the last cell of the chunk", rows * columns, x.used(false));
            Due.is("is its last byte", columns * rows == 1 ? 2 : 1, x.fileAt(0));
            Due.is("is its last byte", 2, x.fileAt(rows * columns - 1));
            x.write(1, rows, 0, 3);
            Due.is("the first one of the chunk below", 2, x.object(1, 3));
            x.write(1, 0, columns, 4);
            Due.is("the first one of the chunk beside it", 3, x.object(1, 3));
            x.write(1, rows, columns, 5);
            Due.is("four chunks", 4 * rows * columns, x.used(false));
            for (int i = 0; i < 3; i++) {
                Due.is("in the order of writing", 3 + i, x.fileAt((1 + i) * rows * columns));
            }
            x.write(1, 23, 23, 6);
            Due.is("the last cell", 6, x.read(1, 23, 23));
            Due.is("five chunks", 5, x.object(1, 3));
        }
        ArrayFile all = withArray(2424, 0, 11, 0, 0);
        for (int i = 0; i < 24; i++) {
            all.write(1, i, 23 - i, i + 1);
            all.write(1, 23, i, i + 1);
        }
        Due.is("a chunk a cell", 47, all.object(1, 3));
        Due.is("a byte a chunk", 47, all.object(1, 4));
    }

    private static void chunksBeyond() {
        Due.says("perhaps beyond the last row and column .. cells beyond the array have the fill value");
        ArrayFile x = withArray(101, 1, 33, 0, 0x0908);
        x.write(1, 0, 0, 0x0102);
        bytesAre("one cell of nine", x, 0, 2, 1, 8, 9, 8, 9, 8, 9, 8, 9, 8, 9, 8, 9, 8, 9, 8, 9, -1);
        ArrayFile y = withArray(303, 0, 22, 0, -2);
        x.write(1, 0, 0, 1);
        for (int i = 0; i < 9; i++) {
            y.write(1, i / 3, i % 3, i + 1);
        }
        bytesAre("four chunks", y, 0, 1, 2, 4, 5, 3, 254, 6, 254, 7, 8, 254, 254, 9, 254, 254, 254, -1);
        ArrayFile z = withArray(2424, 0, 77, 0, 0);
        z.write(1, 21, 21, 1);
        z.write(1, 23, 23, 2);
        z.write(1, 20, 23, 3);
        Due.is("chunks of 7, three cells of the last ones within", 98, z.used(false));
        Due.is("first cell", 1, z.fileAt(0));
        Due.is("last cell of the array", 2, z.fileAt(16));
        Due.is("beyond", 0, z.fileAt(17));
        Due.is("the chunk above", 3, z.fileAt(49 + 6 * 7 + 2));
    }

    // ---- filters

    private static void allFilters() {
        Due.says("and filters, together of: 1 SHUFFLE, 2 DIFFERENCES, 4 RUNS, 8 SUM");
        for (int filters : new int[] {-1, 16, 17, MAX, MIN}) {
            Refused.iae("filters " + filters, ArrayFile::new, x -> array(x, "a", 101, 0, 11, filters, 0));
        }
        int[][] due = {{1, 2, 1, 2, 1, 2}, {1, 1, 1, 2, 2, 2}, {1, 1, 255, 1, 255, 1}, {1, 0, 0, 1, 0, 0},
            {1, 1, 1, 2, 1, 1, 1, 2, 1, 1, 1, 2}, {3, 1, 3, 2}, {2, 1, 1, 255, 1, 1, 1, 255, 1, 1},
            {1, 1, 2, 0, 1, 1, 2, 0}, {1, 2, 1, 2, 1, 2, 9}, {1, 1, 1, 2, 2, 2, 9}, {1, 1, 255, 1, 255, 1, 2},
            {1, 0, 0, 1, 0, 0, 2}, {1, 1, 1, 2, 1, 1, 1, 2, 1, 1, 1, 2, 15}, {3, 1, 3, 2, 9},
            {2, 1, 1, 255, 1, 1, 1, 255, 1, 1, 7}, {1, 1, 2, 0, 1, 1, 2, 0, 8}};
        for (int filters = 0; filters < 16; filters++) {
            ArrayFile x = withArray(103, 1, 13, filters, 0);
            writeRow(x, 1, 0, 513, 513, 513);
            bytesAre("filters " + filters, x, 0, due[filters]);
            Due.is("so many bytes of filters " + filters, due[filters].length, x.used(false));
            Due.is("and of the array", due[filters].length, x.object(1, 4));
            for (int i = 0; i < 3; i++) {
                Due.is("read through filters " + filters, 513, x.read(1, 0, i));
            }
        }
        Due.says("SHUFFLE: the lowest bytes of all cells, then the next bytes of all, and so on.");
        ArrayFile one = withArray(103, 0, 13, 1, 0);
        writeRow(one, 1, 0, 3, 2, 1);
        bytesAre("one byte a cell", one, 0, 3, 2, 1, -1);
        ArrayFile four = withArray(202, 2, 22, 1, 0);
        writeRow(four, 1, 0, 0x04030201, 0x14131211);
        writeRow(four, 1, 1, 0x24232221, -1);
        bytesAre("four bytes a cell", four, 0, 1, 17, 33, 255, 2, 18, 34, 255, 3, 19, 35, 255, 4, 20, 36, 255, -1);
        Due.is("read back", 0x24232221, four.read(1, 1, 0));
        Due.is("read back", -1, four.read(1, 1, 1));
    }

    private static void largestChunks() {
        Due.says("chunks of 1 to 8 rows and 1 to 8 columns .. 2 all ints, of four .. filters backward");
        for (int filters = 0; filters < 16; filters++) {
            ArrayFile x = withArray(808, 2, 88, filters, 0);
            for (int i = 0; i < 64; i++) {
                x.write(1, i / 8, i % 8, i * i * 0x01030507 - i);
            }
            Due.is("one chunk", 1, x.object(1, 3));
            Due.is("not BAD", 0, x.bad(1, 7, 7));
            x.spoil(1, 0, 0, 0);
            x.spoil(1, 0, 0, 0);
            for (int i = 0; i < 64; i++) {
                Due.is("filters " + filters, i * i * 0x01030507 - i, x.read(1, i / 8, i % 8));
            }
        }
    }

    private static void differences() {
        Due.says("DIFFERENCES: each byte less the one ahead of it, as both came to this filter (the first one as it is),"
                + " modulo 256");
        ArrayFile x = withArray(106, 0, 16, 2, 3);
        writeRow(x, 1, 0, -1, 0, -1, -128, 127, 127);
        bytesAre("255, 0, 255, 128, 127, 127", x, 0, 255, 1, 255, 129, 255, 0, -1);
        int[] due = {-1, 0, -1, -128, 127, 127};
        for (int i = 0; i < 6; i++) {
            Due.is("read back", due[i], x.read(1, 0, i));
        }
        ArrayFile one = withArray(101, 0, 11, 2, 3);
        one.write(1, 0, 0, -128);
        bytesAre("the first one alone", one, 0, 128, -1);
        ArrayFile two = withArray(102, 1, 12, 2, 3);
        writeRow(two, 1, 0, 0x0100, 0xFFFF);
        bytesAre("bytes of one cell, too", two, 0, 0, 1, 254, 0, -1);
        Due.is("read back", 0x0100, two.read(1, 0, 0));
        Due.is("read back", 0xFFFF, two.read(1, 0, 1));
    }

    private static void runs() {
        Due.says("RUNS: for each run of like bytes, of at most 255, how many, and the byte.");
        ArrayFile at254 = withArray(808, 2, 88, 4, 0);
        at254.write(1, 7, 7, -65536);
        bytesAre("254 and 2", at254, 0, 254, 0, 2, 255, -1);
        ArrayFile at255 = withArray(808, 2, 88, 4, 0);
        at255.write(1, 7, 7, -16777216);
        bytesAre("255 and 1", at255, 0, 255, 0, 1, 255, -1);
        ArrayFile behind = withArray(808, 2, 88, 4, 0);
        behind.write(1, 0, 0, 1);
        bytesAre("1 and 255", behind, 0, 1, 1, 255, 0, -1);
        Due.is("read back", 1, behind.read(1, 0, 0));
        Due.is("read back", 0, behind.read(1, 7, 7));
        ArrayFile all = filledWith(808, 2, 88, 4, 0);
        bytesAre("256 are 255 and 1 of the same", all, 0, 255, 0, 1, 0, -1);
        Due.is("read back", 0, all.read(1, 7, 7));
        ArrayFile one = withArray(101, 0, 11, 4, 0);
        one.write(1, 0, 0, 9);
        bytesAre("a run of one", one, 0, 1, 9, -1);
        ArrayFile none = withArray(808, 1, 88, 4, 0);
        for (int i = 0; i < 64; i++) {
            none.write(1, i / 8, i % 8, i + 1 << 8);
        }
        Due.is("no two like bytes: twice as many", 256, none.used(false));
        Due.is("read back", 64 << 8, none.read(1, 7, 7));
        ArrayFile longest = withArray(808, 2, 88, 12, 0);
        for (int i = 0; i < 64; i++) {
            longest.write(1, i / 8, i % 8, 0x04030201);
        }
        Due.is("the longest chunk", 513, longest.used(false));
        Due.is("its sum", 256 + 640 & 255, longest.fileAt(512));
        Due.is("its last run", 4, longest.fileAt(511));
        Due.is("read back", 0x04030201, longest.read(1, 7, 7));
    }

    private static void sums() {
        Due.says("SUM: behind all, the sum of all bytes, modulo 256, as one byte.");
        int[][] due = {{-1, 0, 255}, {-1, 1, 0}, {-1, 2, 1}, {-1, -1, 254}, {-128, -128, 0}, {127, -128, 255},
            {-128, 1, 129}, {1, 0, 1}};
        for (int[] one : due) {
            ArrayFile x = withArray(102, 0, 12, 8, 3);
            writeRow(x, 1, 0, one[0], one[1]);
            bytesAre("sum", x, 0, one[0] & 255, one[1] & 255, one[2], -1);
            Due.is("not BAD", 0, x.bad(1, 0, 0));
            Due.is("read back", one[0], x.read(1, 0, 0));
            Due.is("read back", one[1], x.read(1, 0, 1));
        }
        ArrayFile most = filledWith(808, 2, 88, 8, -1);
        Due.is("257 bytes", 257, most.used(false));
        Due.is("256 times 255", 0, most.fileAt(256));
        Due.is("not BAD", 0, most.bad(1, 7, 7));
        ArrayFile zero = filledWith(102, 0, 12, 8, 0);
        bytesAre("the sum of nothing but 0", zero, 0, 0, 0, 0, -1);
    }

    // ---- chunks that are kept

    private static void blankChunks() {
        Due.says("A chunk of which all cells have the fill value is not kept; each other one is kept in the file.");
        ArrayFile x = withArray(202, 0, 22, 8, 5);
        Due.is("at first", 0, x.object(1, 3));
        Due.is("fill over fill", 5, x.write(1, 0, 0, 5));
        Due.is("not kept", 0, x.used(false));
        Due.is("one cell", 5, x.write(1, 1, 1, 0));
        Due.is("kept", 5, x.used(false));
        Due.is("another one", 5, x.write(1, 0, 0, 6));
        Due.is("the first one back", 0, x.write(1, 1, 1, 5));
        Due.is("kept", 1, x.object(1, 3));
        Due.is("the other one back", 6, x.write(1, 0, 0, 5));
        Due.is("not kept", 0, x.object(1, 3));
        Due.is("no bytes", 0, x.object(1, 4));
        Due.is("no bytes of the file", 0, x.used(false));
        Due.is("the first byte is free", -1, x.fileAt(0));
        Due.is("it is the fill value", 5, x.read(1, 1, 1));
        Due.ioobe("not kept: nothing to spoil", () -> x.spoil(1, 0, 0, 0));
        ArrayFile y = withArray(101, 0, 22, 0, 5);
        y.write(1, 0, 0, 5);
        Due.is("with cells beyond", 0, y.object(1, 3));
        y.write(1, 0, 0, 4);
        Due.is("with cells beyond", 1, y.object(1, 3));
    }

    /** Arrays of one-byte chunks (1), four-byte chunks (2), and one of three cells in runs (3). */
    private static ArrayFile withHoles() {
        ArrayFile x = withArray(2424, 0, 11, 0, 0);
        array(x, "b", 824, 0, 14, 0, 0);
        array(x, "c", 103, 0, 13, 4, 0);
        return x;
    }

    private static void lowestPlaces() {
        Due.says("it is put at the lowest place from which on so many bytes are free");
        ArrayFile x = withHoles();
        for (int i = 0; i < 12; i++) {
            x.write(1, 0, i, i + 1);
        }
        for (int i : new int[] {1, 2, 3, 5, 6, 7, 8}) {
            x.write(1, 0, i, 0);
        }
        bytesAre("holes of three and of four", x, 0, 1, -1, -1, -1, 5, -1, -1, -1, -1, 10, 11, 12, -1);
        Due.is("with what is behind", 3, x.used(true));
        x.write(2, 0, 0, 77);
        bytesAre("a hole one too small, then one that is just enough", x, 0, 1, -1, -1, -1, 5, 77, 0, 0, 0, 10);
        x.write(2, 0, 4, 78);
        bytesAre("behind all", x, 9, 10, 11, 12, 78, 0, 0, 0, -1);
        x.write(1, 1, 0, 99);
        bytesAre("one at the lowest", x, 0, 1, 99, -1, -1, 5);
    }

    private static void ownPlaces() {
        Due.says("where it was before is given back first");
        ArrayFile y = withHoles();
        writeRow(y, 3, 0, 1, 1, 1);
        writeRow(y, 1, 0, 5);
        bytesAre("a run, and one byte", y, 0, 3, 1, 5, -1);
        y.write(3, 0, 2, 2);
        bytesAre("four: its own two are not enough", y, 0, -1, -1, 5, 2, 1, 1, 2, -1);
        y.write(1, 0, 1, 6);
        y.write(1, 0, 2, 7);
        bytesAre("the lowest places", y, 0, 6, 7, 5, 2, 1, 1, 2, -1);
        y.write(1, 0, 0, 0);
        y.write(3, 0, 1, 3);
        bytesAre("six: from the hole ahead on", y, 0, 6, 7, 1, 1, 1, 3, 1, 2, -1);
        y.write(1, 0, 0, 9);
        y.write(3, 0, 2, 3);
        bytesAre("four: at its own place", y, 0, 6, 7, 1, 1, 2, 3, -1, -1, 9, -1);
        y.write(1, 0, 1, 0);
        y.write(3, 0, 0, 0);
        bytesAre("four: the hole ahead is too small", y, 0, -1, 7, 1, 0, 2, 3, -1, -1, 9, -1);
        y.write(3, 0, 1, 2);
        bytesAre("six: its own four and two behind are just enough", y, 0, -1, 7, 1, 0, 1, 2, 1, 3, 9, -1);
        y.write(3, 0, 2, 2);
        writeRow(y, 1, 1, 8, 4);
        bytesAre("one of the two behind is taken", y, 0, 8, 7, 1, 0, 2, 2, 4, -1, 9, -1);
        y.write(3, 0, 1, 5);
        bytesAre("six: its own four are not enough", y, 0, 8, 7, -1, -1, -1, -1, 4, -1, 9, 1, 0, 1, 5, 1, 2, -1);
        y.write(3, 0, 2, 5);
        bytesAre("four: its old hole is just enough", y, 0, 8, 7, 1, 0, 2, 5, 4, -1, 9, -1, -1, -1, -1, -1, -1, -1);
        y.write(1, 0, 0, 9);
        bytesAre("the same number, kept anew", y, 0, 8, 7, 1, 0, 2, 5, 4, 9, -1, -1);
    }

    /** 1500 bytes: five chunks of 256, 220 of one; or so many less. */
    private static ArrayFile fullBut(int less) {
        ArrayFile x = withArray(2424, 2, 88, 0, 0);
        array(x, "b", 1010, 0, 11, 0, 0);
        array(x, "c", 824, 0, 88, 0, 0);
        array(x, "d", 404, 0, 22, 4, 0);
        for (int i = 0; i < 5; i++) {
            x.write(1, i / 3 * 8, i % 3 * 8, 3);
        }
        for (int i = 0; i < 3; i++) {
            x.write(3, 0, 8 * i, 4);
        }
        for (int i = 0; i < 28 - less; i++) {
            x.write(2, i / 10, i % 10, i + 1);
        }
        return x;
    }

    private static void fullFile() {
        Due.says("The file has 1500 bytes.");
        ArrayFile x = fullBut(0);
        Due.is("all of them", 1500, x.used(false));
        Due.is("no hole", 0, x.used(true));
        Due.is("the last byte", 28, x.fileAt(1499));
        Due.ioobe("no byte behind it", () -> x.fileAt(1500));
        Due.ioobe("no byte ahead", () -> x.fileAt(-1));
        Due.ioobe("greatest", () -> x.fileAt(MAX));
        Due.ioobe("least", () -> x.fileAt(MIN));
        Due.is("one less", 1, fullBut(1).used(true));
        Due.is("its last byte", -1, fullBut(1).fileAt(1499));
        Due.says("IllegalStateException if the chunk is BAD, or the file has no place for it");
        Refused.ise("a byte too many", () -> fullBut(0), y -> y.write(2, 9, 9, 1));
        Refused.ise("a chunk too many", () -> fullBut(0), y -> y.write(1, 23, 23, 1));
        Refused.ise("two bytes for a run, one free", () -> fullBut(1), y -> runOf(y, 1));
        Refused.iae("no number of the kind comes first", () -> fullBut(0), y -> y.write(2, 9, 9, 128));
        ArrayFile one = fullBut(1);
        Due.is("the last byte", 0, one.write(2, 9, 9, 1));
        Due.is("full", 1500, one.used(false));
        Due.is("fill over fill needs no place", 0, one.write(2, 9, 8, 0));
        Due.is("one that is kept anew as long as it was", 3, one.write(1, 0, 0, 4));
        Due.is("at its place", 4, one.fileAt(0));
        Due.is("one that goes", 28 - 1, one.write(2, 2, 6, 0));
        Due.is("makes place", 1499, one.used(false));
        ArrayFile four = fullBut(4);
        Due.is("four bytes for a chunk of four runs or two", 0, four.write(4, 0, 0, 9));
        Due.is("to the last byte", 1500, four.used(false));
        bytesAre("two runs", four, 1496, 1, 9, 3, 0);
        Refused.ise("three runs of a full file", () -> runOf(fullBut(4)), y -> y.write(4, 0, 1, 8));
        ArrayFile six = fullBut(6);
        six.write(4, 0, 0, 9);
        Due.is("three runs are just enough", 0, six.write(4, 0, 1, 8));
        bytesAre("three runs", six, 1494, 1, 9, 1, 8, 2, 0);
        Refused.ise("three runs are one too many", () -> runOf(fullBut(5)), y -> y.write(4, 0, 1, 8));
    }

    private static ArrayFile runOf(ArrayFile x) {
        x.write(4, 0, 0, 9);
        return x;
    }

    private static int runOf(ArrayFile x, int number) {
        return x.write(4, 0, 0, number);
    }

    // ---- spoiled bytes

    private static void spoils() {
        Due.says("To spoil a chunk that is kept is to turn all bits of one of its bytes.");
        ArrayFile x = withArray(104, 0, 12, 8, 0);
        writeRow(x, 1, 0, 1, -1, 0, 127);
        bytesAre("two chunks", x, 0, 1, 255, 0, 0, 127, 127, -1);
        int[] turned = {254, 0, 255, 255, 128, 128};
        for (int place = 0; place < 6; place++) {
            Due.is("place", place, x.spoil(1, 0, place / 3 * 2, place % 3));
            Due.is("turned", turned[place], x.fileAt(place));
            Due.is("still so many", 6, x.used(false));
        }
        for (int place = 0; place < 6; place++) {
            x.spoil(1, 0, place / 3 * 2 + 1, place % 3);
        }
        bytesAre("turned twice", x, 0, 1, 255, 0, 0, 127, 127, -1);
        Due.says("or the chunk has no such byte in the file, or is not kept");
        for (int which : new int[] {-1, 3, 4, MAX, MIN}) {
            Refused.ioobe("which " + which, CellBoundaries::twoChunks, y -> y.spoil(1, 0, 1, which));
        }
        Refused.ioobe("a chunk that is not kept", CellBoundaries::twoChunks, y -> y.spoil(1, 0, 4, 0));
        Due.is("the last byte of the second", 5, twoChunks().spoil(1, 0, 3, 2));
        Due.is("the first byte of the second", 3, twoChunks().spoil(1, 0, 3, 0));
    }

    private static ArrayFile twoChunks() {
        ArrayFile x = withArray(105, 0, 12, 8, 0);
        writeRow(x, 1, 0, 1, -1, 0, 127);
        return x;
    }

    /** BAD, or not, of an array with two cells in one chunk, behind a spoiled byte. */
    private static void badIs(int due, int filters, int... spoiled) {
        ArrayFile x = withArray(103, 0, 12, filters, 0);
        writeRow(x, 1, 0, 5, 6, 7);
        StringBuilder which = new StringBuilder("filters " + filters + ", spoiled");
        for (int one : spoiled) {
            x.spoil(1, 0, 0, one);
            which.append(' ').append(one);
        }
        Due.is(which.toString(), due, x.bad(1, 0, 0));
        Due.is(which + ", the other cell of the chunk", due, x.bad(1, 0, 1));
        Due.is(which + ", another chunk", 0, x.bad(1, 0, 2));
        Due.is(which + ", another chunk", 7, x.read(1, 0, 2));
        Due.is(which + ", plain", 5, x.plain(1, 0, 0));
        if (due != 0) {
            Due.ise(which + ", read", () -> x.read(1, 0, 1));
            Due.ise(which + ", write", () -> x.write(1, 0, 1, 6));
            Due.ise(which + ", write of the fill value", () -> x.write(1, 0, 0, 0));
            Due.is(which + ", plain stays", 6, x.plain(1, 0, 1));
        } else {
            Due.is(which + ", written", x.read(1, 0, 0), x.write(1, 0, 0, 9));
            Due.is(which + ", read", 9, x.read(1, 0, 0));
        }
    }

    private static void badChunks() {
        Due.says("it is BAD for 8, if there is SUM, and the last byte is not the sum of those ahead; otherwise for 4,"
                + " if there is RUNS, and there are not just as many bytes as in the chunk by that, or a run is of none");
        for (int filters = 0; filters < 16; filters++) {
            boolean hasSum = filters >= 8;
            boolean hasRuns = (filters & 4) != 0;
            badIs(0, filters);
            badIs(hasSum ? 8 : hasRuns ? 4 : 0, filters, 0);
            badIs(hasSum ? 8 : 0, filters, 1);
            badIs(0, filters, 0, 0);
            if (hasRuns) {
                badIs(hasSum ? 8 : 4, filters, 2);
                badIs(hasSum ? 8 : 0, filters, 3);
                badIs(hasSum ? 8 : 4, filters, 0, 2);
            }
            if (hasSum) {
                int last = hasRuns ? 4 : 2;
                badIs(8, filters, last);
                badIs(0, filters, last, last);
            }
        }
    }

    private static void badBySum() {
        Due.says("the last byte is not the sum of those ahead");
        ArrayFile one = withArray(101, 0, 11, 8, 0);
        one.write(1, 0, 0, 5);
        one.spoil(1, 0, 0, 0);
        one.spoil(1, 0, 0, 1);
        Due.is("both turned: it is the sum again", 0, one.bad(1, 0, 0));
        Due.is("read", -6, one.read(1, 0, 0));
        Due.is("plain", 5, one.plain(1, 0, 0));
        ArrayFile two = withArray(102, 0, 12, 8, 0);
        writeRow(two, 1, 0, 127, -128);
        two.spoil(1, 0, 0, 0);
        Due.is("one turned", 8, two.bad(1, 0, 0));
        two.spoil(1, 0, 0, 1);
        Due.is("127 and 128 change places: the same sum", 0, two.bad(1, 0, 0));
        Due.is("read", -128, two.read(1, 0, 0));
        ArrayFile both = withArray(102, 0, 12, 12, 0);
        writeRow(both, 1, 0, -2, -2);
        bytesAre("one run of two", both, 0, 2, 254, 0, -1);
        both.spoil(1, 0, 0, 0);
        Due.is("a wrong sum comes ahead of a wrong run", 8, both.bad(1, 0, 0));
        both.spoil(1, 0, 0, 1);
        Due.is("253 + 1 is not 0", 8, both.bad(1, 0, 0));
        ArrayFile four = withArray(102, 0, 12, 12, 0);
        writeRow(four, 1, 0, 126, 126);
        bytesAre("one run of two", four, 0, 2, 126, 128, -1);
        four.spoil(1, 0, 0, 0);
        four.spoil(1, 0, 0, 1);
        Due.is("253 + 129 is 126, not 128", 8, four.bad(1, 0, 0));
        four.spoil(1, 0, 0, 2);
        Due.is("nor 127", 8, four.bad(1, 0, 0));
    }

    private static void badByRuns() {
        Due.says("there are not just as many bytes as in the chunk by that, or a run is of none");
        ArrayFile x = withArray(808, 2, 88, 4, 0);
        for (int i = 0; i < 25; i++) {
            x.write(1, i / 8, i % 8, -1);
        }
        x.write(1, 7, 7, -16777216);
        bytesAre("100, 155 and 1", x, 0, 100, 255, 155, 0, 1, 255, -1);
        x.spoil(1, 0, 0, 0);
        Due.is("155 + 155 + 1 are too many", 4, x.bad(1, 0, 0));
        x.spoil(1, 0, 0, 2);
        Due.is("155 + 100 + 1 are just as many", 0, x.bad(1, 0, 0));
        Due.is("read", -1, x.read(1, 4, 0));
        Due.is("38 cells and three bytes", 0x00FFFFFF, x.read(1, 4, 6));
        Due.is("then 0", 0, x.read(1, 4, 7));
        Due.is("the last byte", -16777216, x.read(1, 7, 7));
        x.spoil(1, 0, 0, 0);
        Due.is("100 + 100 + 1 are too few", 4, x.bad(1, 0, 0));
        ArrayFile none = withArray(808, 2, 88, 4, 0);
        none.write(1, 7, 7, -16777216);
        none.spoil(1, 0, 0, 0);
        Due.is("a run of none, and too few", 4, none.bad(1, 0, 0));
        ArrayFile few = withArray(808, 2, 88, 4, 0);
        few.write(1, 0, 0, -1);
        bytesAre("4 and 252", few, 0, 4, 255, 252, 0, -1);
        few.spoil(1, 0, 0, 2);
        Due.is("4 + 3 are too few", 4, few.bad(1, 0, 0));
        few.spoil(1, 0, 0, 0);
        Due.is("251 + 3 are two too few", 4, few.bad(1, 0, 0));
        ArrayFile like = withArray(808, 2, 88, 4, 0);
        like.write(1, 0, 0, 1);
        bytesAre("1 and 255", like, 0, 1, 1, 255, 0, -1);
        like.spoil(1, 0, 0, 0);
        Due.is("254 + 255 are too many", 4, like.bad(1, 0, 0));
        like.spoil(1, 0, 0, 2);
        Due.is("254 and a run of none are too few", 4, like.bad(1, 0, 0));
        ArrayFile one = withArray(101, 0, 11, 12, 0);
        one.write(1, 0, 0, 64);
        bytesAre("a run of one, and a sum", one, 0, 1, 64, 65, -1);
        one.spoil(1, 0, 0, 1);
        one.spoil(1, 0, 0, 2);
        Due.is("1 + 191 is not 190", 8, one.bad(1, 0, 0));
        ArrayFile sum = withArray(101, 0, 11, 12, 0);
        sum.write(1, 0, 0, 127);
        sum.spoil(1, 0, 0, 0);
        sum.spoil(1, 0, 0, 1);
        sum.spoil(1, 0, 0, 2);
        Due.is("254 + 128 is 126, not 127", 8, sum.bad(1, 0, 0));
    }

    private static void rightSumsOfWrongRuns() {
        Due.says("otherwise for 4");
        ArrayFile x = withArray(104, 0, 14, 12, 0);
        writeRow(x, 1, 0, 126, 126, 1, 1);
        bytesAre("two runs of two", x, 0, 2, 126, 2, 1, 131, -1);
        x.spoil(1, 0, 0, 0);
        x.spoil(1, 0, 0, 2);
        Due.is("253 + 126 + 253 + 1 is 121, not 131", 8, x.bad(1, 0, 0));
        ArrayFile y = withArray(104, 0, 14, 12, 0);
        writeRow(y, 1, 0, 125, 125, 0, 3);
        bytesAre("2, 1 and 1", y, 0, 2, 125, 1, 0, 1, 3, 132, -1);
        y.spoil(1, 0, 0, 0);
        Due.is("the sum is wrong", 8, y.bad(1, 0, 0));
        y.spoil(1, 0, 0, 1);
        Due.is("253 + 130 + 1 + 0 + 1 + 3 is 132: the sum is right, the runs are not", 4, y.bad(1, 0, 3));
        Due.ise("read", () -> y.read(1, 0, 3));
        Due.ise("write", () -> y.write(1, 0, 3, 3));
        y.spoil(1, 0, 0, 6);
        Due.is("the sum is wrong again", 8, y.bad(1, 0, 3));
    }

    private static void writesOfSpoiled() {
        Due.says("What is written to a cell is read from the file with its chunk, and the chunk kept anew; but cells"
                + " beyond the array are the fill value then.");
        ArrayFile x = withArray(203, 0, 22, 0, 1);
        writeRow(x, 1, 0, 2, 3, 4);
        x.spoil(1, 0, 2, 0);
        x.spoil(1, 0, 2, 1);
        x.spoil(1, 0, 2, 2);
        bytesAre("a chunk with two cells beyond", x, 4, 251, 254, 254, 1, -1);
        Due.is("the value before is that which is read", -5, x.write(1, 0, 2, 9));
        bytesAre("within as read, beyond the fill value", x, 4, 9, 1, 254, 1, -1);
        Due.is("within as read", -2, x.read(1, 1, 2));
        Due.is("plain is what was written", 1, x.plain(1, 1, 2));
        Due.is("plain is what was written", 9, x.plain(1, 0, 2));
        x.spoil(1, 0, 2, 3);
        bytesAre("the other cell beyond", x, 4, 9, 1, 254, 254, -1);
        x.write(1, 0, 2, 9);
        bytesAre("the same number again", x, 4, 9, 1, 254, 1, -1);
        x.write(1, 0, 2, 1);
        x.write(1, 1, 2, 1);
        Due.is("not kept any more", 1, x.object(1, 3));
        ArrayFile y = withArray(101, 0, 12, 0, 1);
        y.write(1, 0, 0, 2);
        y.spoil(1, 0, 0, 1);
        y.write(1, 0, 0, 1);
        Due.is("all fill, but for a cell beyond: not kept", 0, y.used(false));
        ArrayFile z = withArray(102, 2, 12, 0, 255);
        z.write(1, 0, 0, 0);
        z.spoil(1, 0, 0, 0);
        Due.is("spoiled to the fill value", 255, z.read(1, 0, 0));
        Due.is("still kept", 8, z.used(false));
        Due.is("plain", 0, z.plain(1, 0, 0));
        Due.is("fill over fill keeps it anew", 255, z.write(1, 0, 1, 255));
        Due.is("not kept then", 0, z.used(false));
        Due.is("plain", 0, z.plain(1, 0, 0));
    }

    private static void fileBytes() {
        Due.says("Returns 0 to 255; NONE if it is free.");
        ArrayFile x = withArray(102, 0, 11, 0, 5);
        writeRow(x, 1, 0, 0, -1);
        bytesAre("least and greatest", x, 0, 0, 255, -1);
        Due.says("how many rows of free bytes there are, as long as they can be");
        Due.is("one behind", 1, x.used(true));
        x.write(1, 0, 0, 5);
        Due.is("one ahead", 2, x.used(true));
        Due.is("one byte", 1, x.used(false));
        x.write(1, 0, 1, 5);
        Due.is("one, all of it", 1, x.used(true));
        ArrayFile full = fullBut(0);
        Due.is("none", 0, full.used(true));
        full.write(2, 2, 7, 0);
        Due.is("the last byte", 1, full.used(true));
        full.write(2, 2, 6, 0);
        Due.is("the last two bytes", 1, full.used(true));
        full.write(2, 2, 4, 0);
        Due.is("and one ahead", 2, full.used(true));
        full.write(2, 2, 5, 0);
        Due.is("they are one", 1, full.used(true));
        full.write(1, 0, 0, 0);
        Due.is("the first 256", 2, full.used(true));
        Due.is("so many are used", 1240, full.used(false));
    }

    static void all() {
        extents();
        wrongObjects();
        kinds();
        chunks();
        chunksBeyond();
        allFilters();
        largestChunks();
        differences();
        runs();
        sums();
        blankChunks();
        lowestPlaces();
        ownPlaces();
        fullFile();
        spoils();
        badChunks();
        badBySum();
        badByRuns();
        rightSumsOfWrongRuns();
        writesOfSpoiled();
        fileBytes();
        Due.noSentence();
    }
}
