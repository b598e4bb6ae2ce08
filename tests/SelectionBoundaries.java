/** The sentences on selections, copies and views that name a boundary case (promises 16 to 20). */
final class SelectionBoundaries extends Calls {
    private SelectionBoundaries() {
    }

    private static ArrayFile withSelection() {
        ArrayFile x = new ArrayFile();
        Due.is("five", 5, x.slab(0, 0, 5, 1, 11));
        Due.is("one", 1, x.slab(1, 2323, 1, 1, 11));
        return x;
    }

    private static void whichSelection() {
        Due.says("There are the selections 0 and 1");
        for (int which : new int[] {-1, 2, 3, MAX, MIN}) {
            Refused.ioobe("clear " + which, SelectionBoundaries::withSelection, x -> x.clear(which));
            Refused.ioobe("slab " + which, SelectionBoundaries::withSelection, x -> x.slab(which, 0, 1, 1, 11));
            Refused.ioobe("slab, and no rows, " + which, SelectionBoundaries::withSelection,
                    x -> x.slab(which, 0, 0, 1, 11));
        }
        Due.says("Returns how many cells it had.");
        ArrayFile x = withSelection();
        Due.is("five", 5, x.clear(0));
        Due.is("none", 0, x.clear(0));
        Due.is("the other one stays", 1, x.clear(1));
        Due.is("none", 0, x.clear(1));
        Due.is("all", 576, x.slab(1, 0, 24, 24, 11));
        Due.is("had all", 576, x.clear(1));
        Due.is("the last cell that it had", 1, x.slab(1, 2323, 1, 1, 11));
        Due.is("the first cell that it had", 2, x.slab(1, 0, 1, 1, 11));
    }

    private static void whichCells() {
        Due.says("each a set of cells in rows 0 to 23 and columns 0 to 23 .. from is no cell");
        ArrayFile good = new ArrayFile();
        int[] within = {0, 23, 2300, 2323, 123, 1100};
        for (int i = 0; i < within.length; i++) {
            Due.is("from " + within[i], i + 1, good.slab(0, within[i], 1, 1, 11));
        }
        for (int i = 0; i < within.length; i++) {
            Due.is("there already: " + within[i], within.length, good.slab(0, within[i], 1, 1, 99));
        }
        int[] beyond = {-1, -23, -99, -100, -101, -2323, 24, 25, 99, 124, 199, 2324, 2399, 2400, 2401, 2423, 2424, 2500,
            10000, MAX, MIN};
        for (int from : beyond) {
            Refused.ioobe("from " + from, SelectionBoundaries::withSelection, x -> x.slab(0, from, 1, 1, 11));
            Refused.ioobe("from " + from + ", and no rows", SelectionBoundaries::withSelection,
                    x -> x.slab(0, from, 0, 1, 11));
            Refused.ioobe("from " + from + ", and no steps", SelectionBoundaries::withSelection,
                    x -> x.slab(0, from, 1, 1, 10));
        }
    }

    private static void ranges() {
        Due.says("rows: how many, 1 to 24 .. columns: how many, 1 to 24 .. 1 to 9 each");
        for (int count : new int[] {0, -1, 25, 26, 100, MAX, MIN}) {
            Refused.iae("rows " + count, SelectionBoundaries::withSelection, x -> x.slab(0, 0, count, 1, 11));
            Refused.iae("columns " + count, SelectionBoundaries::withSelection, x -> x.slab(0, 0, 1, count, 11));
            Refused.iae("rows, and columns beyond " + count, SelectionBoundaries::withSelection,
                    x -> x.slab(0, 2323, count, 24, 99));
            Refused.iae("columns, and rows beyond " + count, SelectionBoundaries::withSelection,
                    x -> x.slab(0, 2323, 24, count, 99));
        }
        for (int steps : new int[] {0, 1, 9, 10, 20, 90, 100, 101, 110, 111, -1, -11, -99, MAX, MIN}) {
            Refused.iae("steps " + steps, SelectionBoundaries::withSelection, x -> x.slab(0, 0, 1, 1, steps));
            Refused.iae("steps, and rows beyond " + steps, SelectionBoundaries::withSelection,
                    x -> x.slab(0, 2323, 24, 24, steps));
        }
        for (int steps : new int[] {11, 19, 91, 99}) {
            Due.is("steps of one cell", 6, withSelection().slab(0, 2323, 1, 1, steps));
        }
        Due.is("24 rows", 24, withSelection().slab(0, 0, 24, 1, 19));
        Due.is("24 columns", 28, withSelection().slab(0, 0, 1, 24, 91));
    }

    private static void beyondTheLast() {
        Due.says("or, where rows, columns and steps are in range, if a cell of the slab is beyond row or column 23");
        for (int count = 1; count <= 24; count++) {
            for (int step = 1; step <= 9; step++) {
                int last = 23 - (count - 1) * step;
                slabsTo(count, step, last);
            }
        }
        Refused.ioobe("a row", SelectionBoundaries::withSelection, x -> x.slab(0, 2, 24, 1, 21));
        Refused.ioobe("a column", SelectionBoundaries::withSelection, x -> x.slab(0, 2, 1, 24, 12));
        Refused.ioobe("both", SelectionBoundaries::withSelection, x -> x.slab(0, 2323, 24, 24, 99));
    }

    /** So many rows, or columns, fit from last on, and no further. */
    private static void slabsTo(int count, int step, int last) {
        if (last >= 0) {
            ArrayFile x = new ArrayFile();
            Due.is("rows to 23", count, x.slab(0, 100 * last, count, 1, 10 * step + 9));
            Due.is("the last one is row 23", count, x.slab(0, 2300, 1, 1, 11));
            Due.is("the first one", count, x.slab(0, 100 * last, 1, 1, 11));
            Due.is("columns to 23", count, x.slab(1, last, 1, count, 90 + step));
            Due.is("the last one is column 23", count, x.slab(1, 23, 1, 1, 11));
            Due.is("the first one", count, x.slab(1, last, 1, 1, 11));
        }
        int further = Math.max(0, last + 1);
        if (further <= 23) {
            ArrayFile x = new ArrayFile();
            Due.ioobe("rows beyond 23", () -> x.slab(0, 100 * further, count, 1, 10 * step + 1));
            Due.ioobe("columns beyond 23", () -> x.slab(0, further, 1, count, 10 + step));
            Due.is("nothing is selected", 0, x.clear(0));
        }
    }

    private static void slabs() {
        Due.says("A slab is added to one: from a cell on, so many rows, with so many steps from one to the next, and"
                + " columns likewise.");
        ArrayFile x = new ArrayFile();
        Due.is("two rows, three columns", 6, x.slab(0, 102, 2, 3, 34));
        int[] cells = {102, 106, 110, 402, 406, 410};
        for (int cell : cells) {
            Due.is("there: " + cell, 6, x.slab(0, cell, 1, 1, 11));
        }
        int[] others = {101, 103, 105, 107, 111, 202, 302, 306, 502, 702, 414};
        for (int i = 0; i < others.length; i++) {
            Due.is("not there: " + others[i], 7 + i, x.slab(0, others[i], 1, 1, 11));
        }
        Due.says("each a set of cells");
        ArrayFile y = new ArrayFile();
        y.slab(0, 0, 3, 3, 11);
        Due.is("four of them again", 14, y.slab(0, 101, 3, 3, 11));
        Due.is("all of them again", 14, y.slab(0, 101, 3, 3, 11));
        Due.is("the other one is another", 9, y.slab(1, 101, 3, 3, 11));
    }

    // ---- copies

    private static void order() {
        Due.says("in their order, row by row");
        ArrayFile x = withArray(203, 2, 11, 0, 0);
        array(x, "b", 302, 2, 11, 0, 0);
        for (int i = 0; i < 6; i++) {
            x.write(1, i / 3, i % 3, 10 + i);
        }
        int[] mixed = {102, 0, 100, 2, 101, 1};
        for (int cell : mixed) {
            x.slab(0, cell, 1, 1, 11);
        }
        int[] others = {201, 0, 100, 200, 1, 101};
        for (int cell : others) {
            x.slab(1, cell, 1, 1, 11);
        }
        Due.is("all", 6, x.copy(1, 2));
        for (int i = 0; i < 6; i++) {
            Due.is("in order, whatever was added first", 10 + i, x.read(2, i / 2, i % 2));
        }
    }

    private static void cuts() {
        Due.says("a number that is not of its kind being cut: of the lowest byte, with sign, or the lowest two bytes,"
                + " without");
        int[] numbers = {0, 127, 128, 255, 256, 383, 384, -1, -128, -129, 65535, 65536, 32768, 32767, MAX, MIN, 98304};
        for (int number : numbers) {
            ArrayFile x = withArray(101, 2, 11, 0, 0);
            array(x, "b", 101, 0, 11, 0, 0);
            array(x, "c", 101, 1, 11, 0, 0);
            array(x, "d", 101, 2, 11, 0, 0);
            view(x, "v", 101, number);
            x.write(1, 0, 0, number);
            select(x, 0, 0, 1, 1);
            select(x, 1, 0, 1, 1);
            for (int from : new int[] {1, 5}) {
                int[] due = {(byte) number, (char) number, number};
                for (int kind = 0; kind < 3; kind++) {
                    Due.is("one", 1, x.copy(from, 2 + kind));
                    Due.is(number + " to kind " + kind, due[kind], x.read(2 + kind, 0, 0));
                    Due.is(number + " to kind " + kind + ", plain", due[kind], x.plain(2 + kind, 0, 0));
                }
            }
        }
        ArrayFile y = withArray(103, 0, 11, 0, 0);
        array(y, "b", 103, 1, 11, 0, 0);
        y.write(1, 0, 0, -1);
        y.write(1, 0, 1, -128);
        y.write(1, 0, 2, 127);
        select(y, 0, 0, 1, 3);
        select(y, 1, 0, 1, 3);
        y.copy(1, 2);
        Due.is("-1 of a byte", 65535, y.read(2, 0, 0));
        Due.is("-128 of a byte", 65408, y.read(2, 0, 1));
        Due.is("127 of a byte", 127, y.read(2, 0, 2));
        y.write(2, 0, 2, 384);
        y.copy(2, 1);
        Due.is("65535 to a byte", -1, y.read(1, 0, 0));
        Due.is("65408 to a byte", -128, y.read(1, 0, 1));
        Due.is("384 to a byte", -128, y.read(1, 0, 2));
    }

    private static void readsAllFirst() {
        Due.says("are read, all of them; then they are written to those of the selection 1 of the array, one by one");
        for (int from : new int[] {1, 2}) {
            ArrayFile x = withArray(106, 0, 13, 15, 0);
            view(x, "v", 106, 0);
            select(x, 0, 0, 1, 6);
            select(x, 1, 0, 1, 6);
            x.map(2, 1);
            for (int i = 0; i < 6; i++) {
                x.write(1, 0, i, i + 1);
            }
            select(x, 0, 0, 1, 5);
            select(x, 1, 1, 1, 5);
            Due.is("by one to the right", 5, x.copy(from, 1));
            for (int i = 0; i < 6; i++) {
                Due.is("cell " + i, Math.max(1, i), x.read(1, 0, i));
                Due.is("plain " + i, Math.max(1, i), x.plain(1, 0, i));
            }
        }
        ArrayFile y = withArray(104, 0, 12, 0, 0);
        view(y, "v", 104, 0);
        y.write(1, 0, 0, 1);
        y.write(1, 0, 1, 2);
        y.write(1, 0, 2, 3);
        bytesAre("two chunks", y, 0, 1, 2, 3, 0, -1);
        select(y, 0, 0, 1, 2);
        select(y, 1, 0, 1, 2);
        Due.is("a chunk that is fill then", 2, y.copy(2, 1));
        bytesAre("is not kept", y, 0, -1, -1, 3, 0, -1);
    }

    /** Arrays 1 and 2 of 2 x 3 and 3 x 2, the view 3 of 2 x 2, a group, and one cell in each selection. */
    private static ArrayFile toCopy() {
        ArrayFile x = withArray(203, 0, 11, 8, 0);
        array(x, "b", 302, 0, 11, 8, 0);
        view(x, "v", 202, 7);
        group(x, "g");
        x.write(1, 0, 0, 1);
        x.write(1, 1, 2, 2);
        x.write(2, 2, 1, 3);
        select(x, 0, 0, 1, 1);
        select(x, 1, 0, 1, 1);
        return x;
    }

    private static ArrayFile toCopy(int from, int to) {
        ArrayFile x = toCopy();
        select(x, 0, from, 1, 1);
        select(x, 1, to, 1, 1);
        return x;
    }

    private static void cellsOfCopies() {
        Due.says("as told, of both, or if from is a group, to is no array, or a cell of a selection is not in it");
        int[][] good = {{1, 2, 102, 201}, {1, 1, 102, 102}, {3, 2, 101, 201}, {2, 1, 201, 102}};
        for (int[] one : good) {
            Due.is("the last cells", 1, toCopy(one[2], one[3]).copy(one[0], one[1]));
        }
        int[][] beyond = {{1, 2, 200, 0}, {1, 2, 3, 0}, {1, 2, 0, 300}, {1, 2, 0, 2}, {3, 2, 200, 0}, {3, 2, 2, 0},
            {2, 1, 300, 0}, {2, 1, 2, 0}, {2, 1, 0, 200}, {2, 1, 0, 3}, {1, 2, 2323, 0}, {1, 2, 0, 2323}};
        for (int[] one : beyond) {
            Refused.ioobe("a cell of " + one[0] + " or " + one[1] + " beyond", () -> toCopy(one[2], one[3]),
                    x -> x.copy(one[0], one[1]));
            Refused.ioobe("a cell beyond, and not as many", () -> withMore(toCopy(one[2], one[3])),
                    x -> x.copy(one[0], one[1]));
        }
        for (int object : new int[] {0, 4, 5, 29, 30, -1, MAX, MIN}) {
            Refused.ioobe("from " + object, SelectionBoundaries::toCopy, x -> x.copy(object, 1));
            Refused.ioobe("to " + object, SelectionBoundaries::toCopy, x -> x.copy(1, object));
        }
        Refused.ioobe("to a view", SelectionBoundaries::toCopy, x -> x.copy(1, 3));
        Refused.iae("not as many", () -> withMore(toCopy()), x -> x.copy(1, 2));
        Refused.iae("none and one", () -> withNone(0), x -> x.copy(1, 2));
        Refused.iae("one and none", () -> withNone(1), x -> x.copy(1, 2));
        Refused.ioobe("not as many, from a group", () -> withNone(0), x -> x.copy(0, 2));
        ArrayFile none = withNone(0);
        none.clear(1);
        Due.is("none and none", 0, none.copy(1, 2));
        Due.ioobe("none, from a group", () -> none.copy(0, 2));
        Due.ioobe("none, to a view", () -> none.copy(1, 3));
        unlink(none, "b");
        Due.ioobe("none, to a gone one", () -> none.copy(1, 2));
        Due.ioobe("none, from a gone one", () -> none.copy(2, 1));
    }

    private static ArrayFile withMore(ArrayFile x) {
        x.slab(1, 1, 1, 1, 11);
        x.slab(1, 100, 1, 1, 11);
        return x;
    }

    private static ArrayFile withNone(int which) {
        ArrayFile x = toCopy();
        x.clear(which);
        return x;
    }

    private static ArrayFile toCopySpoiled(int spoiled, int row, int column, int from, int to) {
        ArrayFile x = toCopy(from, to);
        x.spoil(spoiled, row, column, 0);
        return x;
    }

    private static void badCopies() {
        Due.says("IllegalStateException if a cell of either is BAD");
        Refused.ise("from", () -> toCopySpoiled(1, 1, 2, 102, 0), x -> x.copy(1, 2));
        Refused.ise("to", () -> toCopySpoiled(2, 2, 1, 0, 201), x -> x.copy(1, 2));
        Refused.ise("the same", () -> toCopySpoiled(1, 1, 2, 102, 102), x -> x.copy(1, 1));
        Refused.iae("BAD, and not as many", () -> withMore(toCopySpoiled(1, 1, 2, 102, 0)), x -> x.copy(1, 2));
        Refused.ioobe("BAD, and beyond", () -> toCopySpoiled(1, 1, 2, 102, 300), x -> x.copy(1, 2));
        Due.is("BAD, but not selected", 1, toCopySpoiled(1, 1, 2, 0, 0).copy(1, 2));
        Due.is("BAD, but of the other selection", 1, toCopySpoiled(1, 0, 0, 102, 0).copy(1, 2));
        Due.is("BAD, but not selected in to", 1, toCopySpoiled(2, 2, 1, 0, 0).copy(1, 2));
        Refused.ise("the last one of three is BAD: none is written", SelectionBoundaries::lastIsBad,
                x -> x.copy(1, 2));
        ArrayFile y = lastIsBad();
        Due.ise("the last one is BAD", () -> y.copy(1, 2));
        Due.ise("in from, too", () -> y.copy(2, 1));
        select(y, 0, 0, 1, 2);
        select(y, 1, 0, 1, 2);
        Due.is("without the last one", 2, y.copy(1, 2));
        Due.is("from that, too", 2, y.copy(2, 1));
        select(y, 0, 0, 1, 3);
        select(y, 1, 0, 1, 3);
        y.spoil(2, 0, 2, 0);
        Due.is("not BAD any more", 3, y.copy(1, 2));
    }

    private static ArrayFile lastIsBad() {
        ArrayFile x = withArray(103, 0, 11, 8, 0);
        array(x, "b", 103, 0, 11, 8, 0);
        for (int i = 0; i < 3; i++) {
            x.write(1, 0, i, i + 1);
            x.write(2, 0, i, i + 4);
        }
        x.spoil(2, 0, 2, 0);
        select(x, 0, 0, 1, 3);
        select(x, 1, 0, 1, 3);
        return x;
    }

    /** An array of chunks of 256 bytes, five of them kept, 28 - less ones, and the view 3 of the number 5. */
    private static ArrayFile nearlyFull(int less) {
        ArrayFile x = withArray(2424, 2, 88, 0, 0);
        array(x, "b", 2424, 0, 11, 0, 0);
        view(x, "v", 2424, 5);
        array(x, "c", 824, 0, 88, 0, 0);
        for (int i = 0; i < 5; i++) {
            x.write(1, i / 3 * 8, i % 3 * 8, 3);
        }
        for (int i = 0; i < 3; i++) {
            x.write(4, 0, 8 * i, 4);
        }
        for (int i = 0; i < 28 - less; i++) {
            x.write(2, 23 - i / 24, i % 24, 1);
        }
        return x;
    }

    private static void noPlace() {
        Due.says("how many cells were written, up to the first one for whose chunk the file has no place, which is not"
                + " written, nor those behind it");
        ArrayFile x = nearlyFull(0);
        Due.is("full", 1500, x.used(false));
        x.clear(0);
        x.clear(1);
        x.slab(0, 0, 1, 4, 11);
        int[] cells = {700, 815, 816, 900};
        for (int cell : cells) {
            x.slab(1, cell, 1, 1, 11);
        }
        Due.is("two of four", 2, x.copy(3, 1));
        int[] due = {5, 5, 0, 0};
        for (int i = 0; i < 4; i++) {
            Due.is("cell " + cells[i], due[i], x.read(1, cells[i] / 100, cells[i] % 100));
            Due.is("plain " + cells[i], due[i], x.plain(1, cells[i] / 100, cells[i] % 100));
        }
        Due.is("the last one has place alone", 0, x.write(1, 9, 0, 5));
        for (int less = 0; less <= 3; less++) {
            ArrayFile y = nearlyFull(less);
            select(y, 0, 0, 1, 3);
            select(y, 1, 0, 1, 3);
            Due.is("so many bytes free", less, y.copy(3, 2));
            Due.is("full", 1500, y.used(false));
            for (int i = 0; i < 3; i++) {
                Due.is("cell " + i, i < less ? 5 : 0, y.read(2, 0, i));
                Due.is("plain " + i, i < less ? 5 : 0, y.plain(2, 0, i));
            }
        }
        ArrayFile z = nearlyFull(0);
        view(z, "w", 101, 0);
        select(z, 0, 0, 1, 1);
        select(z, 1, 0, 1, 1);
        Due.is("fill over fill needs no place", 1, z.copy(5, 2));
        Due.is("none of one", 0, z.copy(3, 2));
        Due.is("nothing is written", 0, z.read(2, 0, 0));
    }

    // ---- views

    /** The view 1 of 2 x 3 with so many maps, the arrays 2 of 2 x 2 and 3 of 3 x 3; one cell in each selection. */
    private static ArrayFile withMaps(int count) {
        ArrayFile x = new ArrayFile();
        view(x, "v", 203, -100000);
        array(x, "a", 202, 0, 22, 8, 1);
        array(x, "b", 303, 2, 11, 8, MAX);
        group(x, "g");
        select(x, 0, 0, 1, 1);
        select(x, 1, 0, 1, 1);
        for (int i = 1; i <= count; i++) {
            Due.is("maps", i, x.map(1, 2 + i % 2));
        }
        return x;
    }

    private static ArrayFile withMaps(int count, int from, int to) {
        ArrayFile x = withMaps(count);
        select(x, 0, from, 1, 1);
        select(x, 1, to, 1, 1);
        return x;
    }

    private static void sixMaps() {
        Due.says("A VIEW has rows, columns and a fill value, an int, and at most 6 maps");
        Due.is("the sixth", 6, withMaps(5).map(1, 2));
        Refused.ise("the seventh", () -> withMaps(6), x -> x.map(1, 2));
        Refused.ise("the seventh, of other cells", () -> withMaps(6, 101, 102), x -> x.map(1, 3));
        Refused.iae("the seventh, not as many", () -> withNone(withMaps(6), 0), x -> x.map(1, 2));
        Refused.ioobe("the seventh, beyond", () -> withMaps(6, 0, 200), x -> x.map(1, 2));
        Refused.ioobe("the seventh, of no array", () -> withMaps(6), x -> x.map(1, 4));
        ArrayFile x = withNone(withNone(withMaps(5), 0), 1);
        Due.is("one of no cells is one, too", 6, x.map(1, 2));
        Due.ise("the seventh of no cells", () -> x.map(1, 2));
        unlink(x, "a");
        Due.ise("maps of gone arrays are there, too", () -> x.map(1, 3));
        Due.ioobe("a gone array", () -> x.map(1, 2));
        view(x, "w", 101, 0);
        Due.is("another view has its own", 1, x.map(5, 3));
        unlink(x, "w");
        Due.ioobe("a gone view", () -> x.map(5, 3));
        Due.says("fill: any int");
        for (int fill : new int[] {MIN, -1, 0, MAX}) {
            ArrayFile y = new ArrayFile();
            view(y, "v", 2424, fill);
            Due.is("fill", fill, y.read(1, 23, 23));
        }
    }

    private static ArrayFile withNone(ArrayFile x, int which) {
        x.clear(which);
        return x;
    }

    private static void cellsOfMaps() {
        Due.says("or if the one is no VIEW, the other one no array, or a cell of the selection 1 is not in the VIEW");
        Due.is("the last cell of the VIEW", 1, withMaps(0, 0, 102).map(1, 2));
        Refused.ioobe("a row beyond", () -> withMaps(0, 0, 200), x -> x.map(1, 2));
        Refused.ioobe("a column beyond", () -> withMaps(0, 0, 3), x -> x.map(1, 2));
        Refused.ioobe("the last cell of all", () -> withMaps(1, 0, 2323), x -> x.map(1, 3));
        Refused.ioobe("beyond, and not as many", () -> withNone(withMaps(0, 0, 200), 0), x -> x.map(1, 2));
        for (int object : new int[] {0, 2, 3, 4, 5, 29, 30, -1, MAX, MIN}) {
            Refused.ioobe("view " + object, () -> withMaps(1), x -> x.map(object, 2));
            if (object != 2 && object != 3) {
                Refused.ioobe("array " + object, () -> withMaps(1), x -> x.map(1, object));
            }
        }
        Refused.ioobe("a view of a view", () -> withMaps(1), x -> x.map(1, 1));
        Refused.ioobe("of no array, and not as many", () -> withNone(withMaps(1), 1), x -> x.map(1, 4));
        Refused.iae("one and none", () -> withNone(withMaps(1), 1), x -> x.map(1, 2));
        Refused.iae("none and one", () -> withNone(withMaps(1), 0), x -> x.map(1, 2));
        Due.says("by a map its cells of the selection 1 are those of the selection 0 of an array, in order");
        ArrayFile x = withMaps(0, 2323, 0);
        Due.is("the selection 0 may be beyond the array", 1, x.map(1, 2));
        Due.is("the fill value", -100000, x.read(1, 0, 0));
        Due.is("not BAD", 0, x.bad(1, 0, 0));
        x.resize(2, 2424);
        Due.is("the array has the cell", 1, x.read(1, 0, 0));
        x.resize(2, 2423);
        Due.is("has it not: a column", -100000, x.read(1, 0, 0));
        x.resize(2, 2324);
        Due.is("has it not: a row", -100000, x.read(1, 0, 0));
        for (int cell : new int[] {1, 100}) {
            ArrayFile y = withMaps(0, cell, 0);
            y.map(1, 2);
            Due.is("has it", 1, y.read(1, 0, 0));
            y.resize(2, cell == 1 ? 102 : 201);
            Due.is("has it in its last row or column", 1, y.read(1, 0, 0));
            y.resize(2, cell == 1 ? 201 : 102);
            Due.is("has it not any more", -100000, y.read(1, 0, 0));
        }
    }

    private static void orderOfMaps() {
        Due.says("in order");
        ArrayFile x = withMaps(0);
        x.clear(0);
        x.clear(1);
        for (int i = 0; i < 9; i++) {
            x.write(3, i / 3, i % 3, i);
        }
        for (int cell : new int[] {201, 2, 100}) {
            x.slab(0, cell, 1, 1, 11);
        }
        for (int cell : new int[] {102, 1, 100}) {
            x.slab(1, cell, 1, 1, 11);
        }
        Due.is("three cells", 1, x.map(1, 3));
        x.clear(0);
        x.slab(1, 0, 2, 3, 11);
        int[] due = {-100000, 2, -100000, 3, -100000, 7};
        for (int i = 0; i < 6; i++) {
            Due.is("as the selections were", due[i], x.read(1, i / 3, i % 3));
        }
        x.write(3, 0, 2, MIN);
        Due.is("as the array is now", MIN, x.read(1, 0, 1));
        Due.ioobe("no plain of a view", () -> x.plain(1, 0, 1));
        Due.ioobe("none is written to a view", () -> x.write(1, 0, 1, 0));
        Due.is("chunks of a view", 0, x.object(1, 3));
        Due.is("bytes of a view", 0, x.object(1, 4));
        Due.is("extents of a view", 203, x.object(1, 2));
    }

    private static void latestMap() {
        Due.says("A cell of a VIEW is that of the array of the latest map that has it, if this array is not gone, and has"
                + " the cell; otherwise the fill value, not that of an earlier map. BAD, if that cell is in a BAD chunk.");
        ArrayFile x = withMaps(0);
        x.write(2, 0, 0, 9);
        x.write(2, 0, 1, 8);
        x.write(3, 0, 0, 70);
        x.write(3, 2, 2, 71);
        Due.is("first", 1, x.map(1, 2));
        Due.is("of a", 9, x.read(1, 0, 0));
        Due.is("second", 2, x.map(1, 3));
        Due.is("of b", 70, x.read(1, 0, 0));
        select(x, 0, 202, 1, 1);
        Due.is("third", 3, x.map(1, 3));
        Due.is("of another cell of b", 71, x.read(1, 0, 0));
        x.resize(3, 302);
        Due.is("that b has not: not that of the second map", -100000, x.read(1, 0, 0));
        x.resize(3, 303);
        Due.is("has it again, but as fill", MAX, x.read(1, 0, 0));
        x.write(3, 2, 2, 72);
        x.spoil(3, 2, 2, 0);
        Due.is("BAD", 8, x.bad(1, 0, 0));
        Due.ise("BAD", () -> x.read(1, 0, 0));
        x.resize(3, 203);
        Due.is("not BAD without the cell", 0, x.bad(1, 0, 0));
        Due.is("but fill", -100000, x.read(1, 0, 0));
        Due.is("the array goes", 1, unlink(x, "b"));
        Due.is("gone: not that of the first map", -100000, x.read(1, 0, 0));
        Due.is("another b", 5, array(x, "b", 303, 2, 11, 8, 0));
        Due.is("is not the one of the map", -100000, x.read(1, 0, 0));
        select(x, 0, 1, 1, 1);
        Due.is("fourth", 4, x.map(1, 2));
        Due.is("of a", 8, x.read(1, 0, 0));
        x.spoil(2, 0, 0, 0);
        Due.is("BAD by another cell of the chunk", 8, x.bad(1, 0, 0));
        select(x, 0, 0, 1, 1);
        Due.is("fifth", 5, x.map(1, 5));
        Due.is("a BAD one of an earlier map is none", 0, x.bad(1, 0, 0));
        Due.is("of the other b", 0, x.read(1, 0, 0));
    }

    private static void badViews() {
        Due.says("BAD, if that cell is in a BAD chunk.");
        ArrayFile x = withArray(102, 0, 12, 4, 0);
        view(x, "v", 103, 6);
        x.write(1, 0, 0, 5);
        select(x, 0, 0, 1, 2);
        select(x, 1, 0, 1, 2);
        x.map(2, 1);
        x.spoil(1, 0, 0, 0);
        Due.is("for 4", 4, x.bad(2, 0, 1));
        Due.is("no map has it", 0, x.bad(2, 0, 2));
        Due.is("no map has it", 6, x.read(2, 0, 2));
        array(x, "b", 103, 0, 11, 0, 0);
        select(x, 0, 2, 1, 1);
        select(x, 1, 2, 1, 1);
        Due.is("a cell that is not BAD is copied", 1, x.copy(2, 3));
        Due.is("6", 6, x.read(3, 0, 2));
        select(x, 0, 1, 1, 1);
        Due.ise("one that is BAD is not", () -> x.copy(2, 3));
        x.spoil(1, 0, 0, 0);
        Due.is("it is not BAD any more", 1, x.copy(2, 3));
        Due.is("0", 0, x.read(3, 0, 2));
    }

    // ---- what there is

    private static void objectNumbers() {
        Due.says("IllegalArgumentException if what is out of range");
        for (int what : new int[] {-1, 5, 6, MAX, MIN}) {
            for (int object = 0; object < 5; object++) {
                int one = object;
                Due.iae("what " + what, () -> withMaps(1).object(one, what));
            }
            Due.ioobe("no object, what " + what, () -> withMaps(1).object(5, what));
            Due.ioobe("no object, what " + what, () -> withMaps(1).object(-1, what));
        }
        ArrayFile x = withMaps(2);
        link(x, "g/a", 2);
        link(x, "g/b", 3);
        link(x, "g/aa", 2);
        x.write(3, 2, 2, 1);
        x.write(3, 1, 1, 1);
        x.write(2, 1, 1, 5);
        int[][] due = {{0, 0, 4, 0, 0}, {2, 1, 203, 0, 0}, {1, 3, 202, 1, 5}, {1, 2, 303, 2, 10}, {0, 1, 3, 0, 0}};
        for (int object = 0; object < 5; object++) {
            for (int what = 0; what < 5; what++) {
                Due.is("object " + object + ", " + what, due[object][what], x.object(object, what));
            }
        }
    }

    static void all() {
        whichSelection();
        whichCells();
        ranges();
        beyondTheLast();
        slabs();
        order();
        cuts();
        readsAllFirst();
        cellsOfCopies();
        badCopies();
        noPlace();
        sixMaps();
        cellsOfMaps();
        orderOfMaps();
        latestMap();
        badViews();
        objectNumbers();
        Due.noSentence();
    }
}
