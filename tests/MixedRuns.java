import java.util.ArrayList;
import java.util.List;
import java.util.Map;
import java.util.TreeMap;

/**
 * Runs of 512 calls that mix the promises, each about one theme: the class has to answer as Model does, and what
 * the theme is about has to be met in the runs of it, which is counted.
 */
abstract class MixedRuns extends Both {
    private static final int RUNS = 60;
    private static final Map<String, Integer> MET = new TreeMap<>();
    private static final String NO_PLACE = IllegalStateException.class.getName();

    private MixedRuns(int run) {
        super(run);
    }

    abstract void start();

    abstract void step();

    static void all() {
        for (int run = 0; run < RUNS; run++) {
            new LinksTaken(run).go("links taken away");
            new ExtentsBetween(run).go("extents between writes");
            new SpoiledAhead(run).go("spoiled bytes ahead");
            new FullFile(run).go("a full file");
        }
        for (String[] situations : List.of(LinksTaken.SITUATIONS, ExtentsBetween.SITUATIONS, SpoiledAhead.SITUATIONS,
                FullFile.SITUATIONS)) {
            for (String situation : situations) {
                Due.is("met in the mixed runs: " + situation, 1, MET.getOrDefault(situation, 0) >= RUNS / 2 ? 1 : 0);
            }
        }
    }

    final void go(String theme) {
        start();
        while (calls < CALLS && !isWrong) {
            step();
        }
        compareAll();
        Due.is("mixed run " + run + ", " + theme, 0, isWrong ? 1 : 0);
    }

    final void meet(boolean isMet, String situation) {
        if (isMet && !isWrong && calls < CALLS) {
            MET.merge(situation, 1, Integer::sum);
        }
    }

    final boolean isRefused() {
        return latest.equals(NO_PLACE);
    }

    // ---- what there is, as Model has it

    final Model.Thing thing(int object) {
        return model.things.get(object);
    }

    final List<Integer> all(char sort) {
        List<Integer> found = new ArrayList<>();
        model.things.forEach((object, thing) -> {
            if (thing.sort == sort) {
                found.add(object);
            }
        });
        return found;
    }

    /** One of a sort; the root if there is none, which is neither an array nor a view. */
    final int some(char sort) {
        List<Integer> found = all(sort);
        return found.isEmpty() ? 0 : found.get(below(found.size()));
    }

    final int someRow(int object) {
        return below(Math.max(1, thing(object).rows));
    }

    final int someColumn(int object) {
        return below(Math.max(1, thing(object).columns));
    }

    final int shapeOf(int object) {
        return 100 * thing(object).rows + thing(object).columns;
    }

    /** The bytes of the chunk of a cell, as many as are kept of it. */
    final int keptBytes(int object, int row, int column) {
        Model.Thing array = thing(object);
        if (array.sort != 'a') {
            return 0;
        }
        Model.Kept kept = array.chunks.get(100 * (row / array.chunkRows) + column / array.chunkColumns);
        return kept == null ? 0 : kept.bytes.length;
    }

    // ---- steps that several themes have

    final int makeArray(String path, int shape, int kind, int chunk, int filters, int fill) {
        typeText(path);
        return array(shape, kind, chunk, filters, fill);
    }

    final int makeView(String path, int shape, int fill) {
        typeText(path);
        return view(shape, fill);
    }

    final int hardLink(String path, int object) {
        typeText(path);
        return link(object);
    }

    final int softLink(String pathAndPath) {
        typeText(pathAndPath);
        return link(-1);
    }

    /** Numbers of the array's kind; often the fill value, so that chunks are given back, too. */
    final int someValue(int object) {
        Model.Thing array = thing(object);
        if (chance(20)) {
            return array.fill;
        }
        return array.kind == 0 ? below(20) - 10 : array.kind == 1 ? below(600) : below(70000) - 35000;
    }

    final int writeSomewhere(int object) {
        return write(object, someRow(object), someColumn(object), someValue(object));
    }

    /** Selects a block of one object and one as large of the other. */
    final int selectBlocks(int from, int to) {
        int rows = 1 + below(Math.max(1, Math.min(thing(from).rows, thing(to).rows)));
        int columns = 1 + below(Math.max(1, Math.min(thing(from).columns, thing(to).columns)));
        int[] ends = {from, to};
        for (int which = 0; which < 2; which++) {
            Model.Thing end = thing(ends[which]);
            clear(which);
            slab(which, 100 * below(Math.max(1, end.rows - rows + 1)) + below(Math.max(1, end.columns - columns + 1)),
                    rows, columns, 11);
        }
        return rows * columns;
    }

    final void selectAll(int from, int to) {
        int rows = Math.min(thing(from).rows, thing(to).rows);
        int columns = Math.min(thing(from).columns, thing(to).columns);
        for (int which = 0; which < 2; which++) {
            clear(which);
            slab(which, 0, rows, columns, 11);
        }
    }

    /** Links are taken away while arrays and views stand behind them. */
    private static final class LinksTaken extends MixedRuns {
        static final String[] SITUATIONS = {"an array is gone that a view has a map of", "bytes are given back by unlink",
            "several objects are gone at once", "a ring stays that has bytes", "a link is taken and nothing is gone",
            "a view's cell of an array that is gone", "a soft link to what is gone",
            "a chunk is put where a gone array was"};
        private static final String[] NAMES = {"a", "b", "c", "g", "h", "k", "v", "w"};
        private final List<Integer> givenBack = new ArrayList<>();

        LinksTaken(int run) {
            super(run);
        }

        void start() {
            group("g");
            group("h");
            group("g/k");
            hardLink("g/k/g", 1);
            makeArray("a", 304, 1, 22, below(16), 0);
            makeArray("g/b", 404, below(3), 22, 0, 1);
            makeArray("g/k/c", 303, 0, 33, 4, 0);
            makeArray("h/b", 808, 2, 44, below(16), 0);
            makeView("v", 606, -5);
            makeView("h/w", 404, 5);
            softLink("s>g/k/c");
            softLink("h/s>s");
            softLink("k>g/k");
        }

        /** All paths by hard links, the root's first; rings are gone through once. */
        private List<String> paths(int most) {
            List<String> paths = new ArrayList<>();
            gather("", 0, most, paths);
            return paths;
        }

        private void gather(String ahead, int group, int most, List<String> paths) {
            thing(group).links.forEach((name, to) -> {
                paths.add(ahead + name);
                if (to instanceof Integer object && thing(object).sort == 'g' && most > 1) {
                    gather(ahead + name + "/", object, most - 1, paths);
                }
            });
        }

        private String somePath() {
            List<String> paths = paths(3);
            return paths.isEmpty() ? "a" : paths.get(below(paths.size()));
        }

        private String newPath() {
            String name = NAMES[below(NAMES.length)];
            String ahead = somePath();
            return chance(40) ? name : ahead + "/" + name;
        }

        private boolean isMapped(int array) {
            return all('v').stream().anyMatch(v -> thing(v).maps.stream().anyMatch(m -> m.array == array));
        }

        private boolean hasUnreachableBytes() {
            List<Integer> reached = new ArrayList<>(List.of(0));
            for (int i = 0; i < reached.size(); i++) {
                for (Object to : thing(reached.get(i)).links.values()) {
                    if (to instanceof Integer object && !reached.contains(object)) {
                        reached.add(object);
                    }
                }
            }
            return model.things.entrySet().stream().anyMatch(e -> !reached.contains(e.getKey())
                    && !e.getValue().chunks.isEmpty());
        }

        private void takeAway() {
            List<Integer> mapped = all('a').stream().filter(this::isMapped).toList();
            Map<Integer, Model.Thing> before = new TreeMap<>(model.things);
            int bytes = model.used(false);
            int gone = unlink(somePath());
            meet(mapped.stream().anyMatch(a -> thing(a) == null && isMapped(a)),
                    "an array is gone that a view has a map of");
            meet(model.used(false) < bytes, "bytes are given back by unlink");
            meet(gone > 1, "several objects are gone at once");
            meet(gone == 0, "a link is taken and nothing is gone");
            meet(hasUnreachableBytes(), "a ring stays that has bytes");
            before.forEach((object, thing) -> {
                if (thing(object) == null) {
                    thing.chunks.values().forEach(kept -> givenBack.add(kept.place));
                }
            });
            used(chance(50));
        }

        private void make() {
            switch (below(5)) {
                case 0 -> group(newPath());
                case 1 -> makeArray(newPath(), 303 + below(4), below(3), 23, below(16), 0);
                case 2 -> makeView(newPath(), 404 + below(3), 9);
                case 3 -> hardLink(newPath(), below(Math.max(1, model.ever)));
                default -> softLink(newPath() + ">" + somePath());
            }
        }

        private void readView() {
            int view = some('v');
            int row = someRow(view);
            int column = someColumn(view);
            for (Model.OneMap map : thing(view).maps) {
                meet(map.cells.containsKey(100 * row + column) && thing(map.array) == null,
                        "a view's cell of an array that is gone");
            }
            read(view, row, column);
            bad(view, row, column);
        }

        private void goBySoft() {
            int found = find(chance(50) ? "s" : chance(50) ? "h/s" : newPath());
            meet(found == -1 && model.told.size() > 1 && model.told.get(0)[0] == 1, "a soft link to what is gone");
            trouble(below(3), chance(50));
        }

        private void writeIt() {
            int array = some('a');
            List<Model.Kept> before = new ArrayList<>(thing(array).chunks.values());
            writeSomewhere(array);
            meet(thing(array).chunks.values().stream().anyMatch(kept -> !before.contains(kept)
                    && givenBack.contains(kept.place)), "a chunk is put where a gone array was");
        }

        void step() {
            int kind = below(100);
            if (kind < 35) {
                writeIt();
            } else if (kind < 50) {
                int array = some('a');
                int view = some('v');
                selectBlocks(array, view);
                map(view, array);
            } else if (kind < 65) {
                readView();
            } else if (kind < 70) {
                int from = some(chance(50) ? 'a' : 'v');
                int to = some('a');
                selectBlocks(from, to);
                copy(from, to);
            } else if (kind < 76) {
                takeAway();
            } else if (kind < 88) {
                make();
            } else if (kind < 95) {
                goBySoft();
            } else {
                object(below(30), below(5));
            }
        }
    }

    /** Extents grow and shrink between writes. */
    private static final class ExtentsBetween extends MixedRuns {
        static final String[] SITUATIONS = {"chunks beyond are given back", "a chunk partly beyond is kept anew",
            "more bytes are used by other extents", "a cell that was written is gone", "a cell comes back as the fill value",
            "a view's cell beyond its array", "a view's cell is back", "extents that are more and less at once"};
        private int lost = -1;

        ExtentsBetween(int run) {
            super(run);
        }

        void start() {
            makeArray("a", 606, 0, 44, 4, 0);
            makeArray("b", 509, 1, 23, below(16), 7);
            makeArray("c", 404, 2, 11 * (1 + below(8)), below(16), -1);
            makeView("v", 1010, 3);
            makeView("w", 1010, 7);
            for (int array = 1; array <= 3; array++) {
                selectAll(array, 4);
                map(4, array);
            }
            for (int i = 0; i < 40; i++) {
                int array = 1 + below(3);
                write(array, someRow(array), someColumn(array), array == 1 ? 7 : someValue(array));
            }
        }

        private int change(int side) {
            return Math.max(1, Math.min(10, side + below(7) - 3));
        }

        private void reshape() {
            int array = 1 + below(3);
            int rows = thing(array).rows;
            int columns = thing(array).columns;
            Map<Integer, Model.Kept> before = new TreeMap<>(thing(array).chunks);
            Map<Integer, Integer> written = new TreeMap<>(thing(array).written);
            int newRows = change(rows);
            int newColumns = change(columns);
            int less = resize(array, 100 * newRows + newColumns);
            meet(thing(array).chunks.size() < before.size(), "chunks beyond are given back");
            meet(thing(array).chunks.entrySet().stream().anyMatch(e -> before.get(e.getKey()) != e.getValue()),
                    "a chunk partly beyond is kept anew");
            meet(!isRefused() && less < 0, "more bytes are used by other extents");
            meet(newRows > rows && newColumns < columns, "extents that are more and less at once");
            for (int cell : written.keySet()) {
                if (!thing(array).written.containsKey(cell) && written.get(cell) != thing(array).fill) {
                    meet(true, "a cell that was written is gone");
                    lost = 10000 * array + cell;
                }
            }
            used(chance(50));
        }

        private void comeBack() {
            int array = lost / 10000;
            int row = lost % 10000 / 100;
            int column = lost % 100;
            if (lost < 0) {
                return;
            }
            read(4, row, column);
            meet(row >= thing(array).rows || column >= thing(array).columns, "a view's cell beyond its array");
            resize(array, 100 * Math.max(row + 1, thing(array).rows) + Math.max(column + 1, thing(array).columns));
            int value = read(array, row, column);
            meet(value == thing(array).fill, "a cell comes back as the fill value");
            plain(array, row, column);
            write(array, row, column, array == 1 ? 7 : 55);
            read(4, row, column);
            meet(latest.equals("55"), "a view's cell is back");
            lost = -1;
        }

        void step() {
            int kind = below(100);
            int array = 1 + below(3);
            if (kind < 45) {
                write(array, someRow(array), someColumn(array), array == 1 && chance(85) ? 7 : someValue(array));
            } else if (kind < 65) {
                reshape();
            } else if (kind < 78) {
                comeBack();
            } else if (kind < 82) {
                selectAll(5, 1);
                copy(5, 1);
                reshape();
            } else if (kind < 90) {
                int to = 1 + below(3);
                selectBlocks(array, to);
                copy(array, to);
            } else if (kind < 95) {
                read(array, someRow(array), someColumn(array));
                plain(array, someRow(array), someColumn(array));
            } else {
                object(array, 3 + below(2));
                fileAt(below(300));
            }
        }
    }

    /** Bytes are spoiled ahead of copies and maps. */
    private static final class SpoiledAhead extends MixedRuns {
        static final String[] SITUATIONS = {"a copy from what is BAD", "a copy to what is BAD",
            "a copy from what is spoiled and not BAD", "a view's cell is BAD for 8", "a view's cell is BAD for 4",
            "a write to what is BAD", "a byte is turned back", "a spoiled cell goes into a chunk that is kept anew",
            "other extents leave a BAD chunk", "a map of what is BAD"};

        SpoiledAhead(int run) {
            super(run);
        }

        void start() {
            makeArray("a", 506, 0, 23, 4 + below(4), 0);
            makeArray("b", 605, 1, 32, 8 + below(8), 1);
            makeArray("c", 405, 2, 22, below(4), 0);
            makeArray("d", 505, 0, 33, 12, 0);
            makeView("v", 606, 3);
            makeView("w", 505, -3);
            for (int array = 1; array <= 2; array++) {
                selectAll(array, 4 + array);
                map(4 + array, array);
            }
            for (int i = 0; i < 60; i++) {
                writeSomewhere(1 + below(4));
            }
        }

        /** The calls of the run can be over, so that the selections are those of other objects. */
        private boolean has(int object, int cell) {
            return cell / 100 < thing(object).rows && cell % 100 < thing(object).columns;
        }

        private boolean isOneBad(int object, int which) {
            for (int cell : model.selections.get(which)) {
                if (has(object, cell) && model.bad(object, cell / 100, cell % 100) != 0) {
                    return true;
                }
            }
            return false;
        }

        private boolean isOneOther(int object) {
            for (int cell : model.selections.get(0)) {
                int row = cell / 100;
                int column = cell % 100;
                if (thing(object).sort == 'a' && has(object, cell)
                        && model.read(object, row, column) != model.plain(object, row, column)) {
                    return true;
                }
            }
            return false;
        }

        private void spoilIt() {
            int array = 1 + below(4);
            int row = someRow(array);
            int column = someColumn(array);
            int which = below(Math.max(1, keptBytes(array, row, column)));
            spoil(array, row, column, which);
            bad(array, row, column);
            read(array, row, column);
            plain(array, row, column);
            if (chance(60)) {
                copyIt(array);
            }
            if (chance(40)) {
                readView(row, column);
            }
            if (chance(20)) {
                reshape();
            }
            if (chance(60)) {
                spoil(array, row, column, which);
                meet(!latest.startsWith("java"), "a byte is turned back");
                read(array, row, column);
            }
        }

        private void copyIt(int from) {
            int to = 1 + below(4);
            selectBlocks(from, to);
            boolean isFromBad = isOneBad(from, 0);
            boolean isToBad = isOneBad(to, 1);
            boolean isOther = !isFromBad && isOneOther(from);
            copy(from, to);
            meet(isFromBad && isRefused(), "a copy from what is BAD");
            meet(!isFromBad && isToBad && isRefused(), "a copy to what is BAD");
            meet(isOther && !isRefused(), "a copy from what is spoiled and not BAD");
        }

        private void mapIt() {
            int array = 1 + below(4);
            int view = 5 + below(2);
            selectBlocks(array, view);
            boolean isBad = isOneBad(array, 0);
            map(view, array);
            meet(isBad && !isRefused(), "a map of what is BAD");
        }

        private void readView(int row, int column) {
            int view = 5 + below(2);
            int badness = bad(view, row, column);
            read(view, row, column);
            meet(badness == 8 && isRefused(), "a view's cell is BAD for 8");
            meet(badness == 4 && isRefused(), "a view's cell is BAD for 4");
        }

        private void writeIt() {
            int array = 1 + below(4);
            int row = someRow(array);
            int column = someColumn(array);
            boolean isBad = model.bad(array, row, column) != 0;
            boolean isOther = !isBad && model.read(array, row, column) != model.plain(array, row, column);
            write(array, row, column < thing(array).columns - 1 ? column + 1 : column, someValue(array));
            meet(isBad && isRefused(), "a write to what is BAD");
            meet(isOther && !isRefused(), "a spoiled cell goes into a chunk that is kept anew");
        }

        private void reshape() {
            int array = 1 + below(4);
            int lastRow = thing(array).rows - 1;
            int lastColumn = thing(array).columns - 1;
            boolean isBad = lastColumn > 0 && model.bad(array, lastRow, lastColumn) != 0
                    && lastColumn % thing(array).chunkColumns != 0;
            resize(array, shapeOf(array) - (isBad ? 1 : 0));
            meet(isBad && model.bad(array, lastRow, lastColumn - 1) != 0, "other extents leave a BAD chunk");
            resize(array, 100 * (3 + below(4)) + 3 + below(4));
        }

        void step() {
            int kind = below(100);
            if (kind < 40) {
                writeIt();
            } else if (kind < 60) {
                spoilIt();
            } else if (kind < 68) {
                copyIt(1 + below(6));
            } else if (kind < 76) {
                mapIt();
            } else if (kind < 90) {
                readView(below(6), below(5));
            } else if (kind < 95) {
                reshape();
            } else {
                used(chance(50));
                object(1 + below(4), 3 + below(2));
            }
        }
    }

    /** The file is full, or nearly. */
    private static final class FullFile extends MixedRuns {
        static final String[] SITUATIONS = {"all 1500 bytes are used", "a write without place", "a write to a full file",
            "a copy that stops", "other extents without place", "four holes and more", "an array is gone from a full file",
            "a chunk is given back by the fill value"};
        private static final int FINE = 3;
        private static final int SEVENS = 4;

        FullFile(int run) {
            super(run);
        }

        void start() {
            makeArray("a", 2424, 2, 88, 0, 0);
            makeArray("b", 1212, 1, 66, 8 + 4 * below(2), 0);
            makeArray("c", 2424, 0, 11, 0, 0);
            makeView("d", 808, 7);
            makeArray("e", 808, 0, 88, 4, 0);
            selectAll(SEVENS, 5);
            copy(SEVENS, 5);
            writeWide(1);
        }

        /** Five chunks of 256 bytes. */
        private void writeWide(int array) {
            for (int i = 0; i < 5; i++) {
                write(array, 8 * (i / 3), 8 * (i % 3), 5);
            }
        }

        /** Fills the rest with chunks of one byte each, by one copy of a view's fill value. */
        private void fill() {
            int rows = 1 + below(8);
            clear(0);
            clear(1);
            slab(0, 0, rows, 8, 11);
            slab(1, 100 * below(17) + below(17), rows, 8, 11);
            int copied = copy(SEVENS, FINE);
            meet(copied > 0 && copied < 8 * rows, "a copy that stops");
            meet(model.used(false) == 1500, "all 1500 bytes are used");
        }

        private void writeIt(int array) {
            int chunks = thing(array).chunks.size();
            boolean wasFull = model.used(false) == 1500;
            writeSomewhere(array);
            meet(isRefused(), "a write without place");
            meet(wasFull && !isRefused(), "a write to a full file");
            meet(thing(array).chunks.size() < chunks, "a chunk is given back by the fill value");
        }

        private void reshape() {
            boolean isSevens = chance(70);
            int array = isSevens ? 5 : 2 + below(2);
            int side = isSevens ? 5 : 20;
            resize(array, 100 * (side + below(4)) + side + below(4));
            meet(isRefused(), "other extents without place");
        }

        /** Takes chunks of one byte from between others. */
        private void makeHoles() {
            for (int i = 0; i < 4; i++) {
                write(FINE, someRow(FINE), someColumn(FINE), 0);
            }
            meet(used(true) >= 4, "four holes and more");
        }

        private void takeAndMakeAnew() {
            boolean wasFull = model.used(false) == 1500;
            int gone = unlink("a");
            meet(wasFull && gone == 1, "an array is gone from a full file");
            writeWide(makeArray("a", 2424, 2, 88, 0, 0));
        }

        private void refillSevens() {
            resize(5, 808);
            selectAll(SEVENS, 5);
            copy(SEVENS, 5);
        }

        void step() {
            int kind = below(100);
            if (kind < 30) {
                fill();
            } else if (kind < 36) {
                makeHoles();
            } else if (kind < 42) {
                writeIt(FINE);
            } else if (kind < 60) {
                writeIt(chance(50) ? 2 : some('a'));
            } else if (kind < 73) {
                reshape();
            } else if (kind < 75) {
                takeAndMakeAnew();
            } else if (kind < 83) {
                refillSevens();
            } else if (kind < 90) {
                used(chance(50));
            } else {
                fileAt(below(1500));
            }
        }
    }
}
