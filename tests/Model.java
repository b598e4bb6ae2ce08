import java.util.ArrayList;
import java.util.Arrays;
import java.util.HashMap;
import java.util.List;
import java.util.Map;
import java.util.TreeMap;
import java.util.TreeSet;

/** The document once more, in the slowest and plainest form: nothing is kept that can be counted anew. */
final class Model {
    static final int NONE = -1;

    static final class Kept {
        int place;
        int[] bytes;

        Kept(int place, int[] bytes) {
            this.place = place;
            this.bytes = bytes;
        }
    }

    static final class OneMap {
        int array;
        Map<Integer, Integer> cells = new HashMap<>();
    }

    static final class Thing {
        char sort;
        Map<String, Object> links = new TreeMap<>();
        int rows, columns, kind, chunkRows, chunkColumns, filters, fill;
        TreeMap<Integer, Kept> chunks = new TreeMap<>();
        Map<Integer, Integer> written = new HashMap<>();
        List<OneMap> maps = new ArrayList<>();
    }

    static final class Trouble extends Exception {
        final List<int[]> levels = new ArrayList<>();

        Trouble(int kind, int place) {
            levels.add(new int[] {kind, place});
        }
    }

    String line = "";
    TreeMap<Integer, Thing> things = new TreeMap<>();
    int ever = 1;
    List<int[]> told = new ArrayList<>();
    List<TreeSet<Integer>> selections = List.of(new TreeSet<>(), new TreeSet<>());

    Model() {
        Thing root = new Thing();
        root.sort = 'g';
        things.put(0, root);
    }

    // ---- the line, links

    int type(long signs) {
        StringBuilder more = new StringBuilder();
        long rest = signs;
        while ((rest & 255) != 0) {
            int sign = (int) (rest & 255);
            if (sign < 32 || sign > 126) {
                throw new IllegalArgumentException();
            }
            more.append((char) sign);
            rest >>>= 8;
        }
        if (rest != 0) {
            throw new IllegalArgumentException();
        }
        if (line.length() + more.length() > 48) {
            throw new IllegalStateException();
        }
        line += more;
        return line.length();
    }

    private String takeLine() {
        String taken = line;
        line = "";
        return taken;
    }

    private static String[] names(String path) {
        if (!path.matches("[a-z]{1,4}(/[a-z]{1,4}){0,7}")) {
            throw new IllegalArgumentException();
        }
        return path.split("/");
    }

    private boolean isGroup(int object) {
        return things.get(object).sort == 'g';
    }

    private int follow(String path, boolean lastToo, int within) throws Trouble {
        String[] names = names(path);
        int at = 0;
        int place = 0;
        for (int i = 0; i < names.length - (lastToo ? 0 : 1); i++) {
            Object to = things.get(at).links.get(names[i]);
            if (to == null) {
                throw new Trouble(1, place);
            }
            int next;
            if (to instanceof Integer number) {
                next = number;
            } else {
                if (within == 4) {
                    throw new Trouble(3, place);
                }
                try {
                    next = follow((String) to, true, within + 1);
                } catch (Trouble cause) {
                    Trouble mine = new Trouble(cause.levels.get(0)[0], place);
                    mine.levels.addAll(cause.levels);
                    throw mine;
                }
            }
            if (i < names.length - 1 && !isGroup(next)) {
                throw new Trouble(2, place);
            }
            at = next;
            place += names[i].length() + 1;
        }
        return at;
    }

    private int tell(Trouble trouble) {
        told = trouble.levels;
        return NONE;
    }

    private static String lastName(String path) {
        return path.substring(path.lastIndexOf('/') + 1);
    }

    int find() {
        String path = takeLine();
        names(path);
        try {
            return follow(path, true, 0);
        } catch (Trouble trouble) {
            return tell(trouble);
        }
    }

    private int make(String path, Thing thing) {
        if (ever == 30) {
            throw new IllegalStateException();
        }
        if (tie(path, ever) == NONE) {
            return NONE;
        }
        things.put(ever, thing);
        return ever++;
    }

    private int tie(String path, Object to) {
        try {
            Map<String, Object> links = things.get(follow(path, false, 0)).links;
            if (links.containsKey(lastName(path)) || links.size() == 12) {
                throw new IllegalStateException();
            }
            links.put(lastName(path), to);
            return links.size();
        } catch (Trouble trouble) {
            return tell(trouble);
        }
    }

    int group() {
        String path = takeLine();
        names(path);
        Thing thing = new Thing();
        thing.sort = 'g';
        return make(path, thing);
    }

    private static void need(boolean fine) {
        if (!fine) {
            throw new IllegalArgumentException();
        }
    }

    private static void there(boolean fine) {
        if (!fine) {
            throw new IndexOutOfBoundsException();
        }
    }

    private static void state(boolean fine) {
        if (!fine) {
            throw new IllegalStateException();
        }
    }

    private static boolean isPair(int number, int base, int low, int high) {
        for (int i = low; i <= high; i++) {
            for (int j = low; j <= high; j++) {
                if (number == base * i + j) {
                    return true;
                }
            }
        }
        return false;
    }

    private static boolean isOfKind(int value, int kind) {
        return switch (kind) {
            case 0 -> value == (byte) value;
            case 1 -> value == (char) value;
            default -> true;
        };
    }

    int array(int shape, int kind, int chunk, int filters, int fill) {
        String path = takeLine();
        names(path);
        need(isPair(shape, 100, 1, 24) && kind >= 0 && kind <= 2 && isPair(chunk, 10, 1, 8));
        need(filters >= 0 && filters <= 15 && isOfKind(fill, kind));
        Thing thing = new Thing();
        thing.sort = 'a';
        thing.rows = shape / 100;
        thing.columns = shape % 100;
        thing.kind = kind;
        thing.chunkRows = chunk / 10;
        thing.chunkColumns = chunk % 10;
        thing.filters = filters;
        thing.fill = fill;
        return make(path, thing);
    }

    int view(int shape, int fill) {
        String path = takeLine();
        names(path);
        need(isPair(shape, 100, 1, 24));
        Thing thing = new Thing();
        thing.sort = 'v';
        thing.rows = shape / 100;
        thing.columns = shape % 100;
        thing.fill = fill;
        return make(path, thing);
    }

    int link(int object) {
        if (object != NONE) {
            thing(object);
            String path = takeLine();
            names(path);
            return tie(path, object);
        }
        String[] both = takeLine().split(">", -1);
        need(both.length == 2);
        names(both[0]);
        names(both[1]);
        return tie(both[0], both[1]);
    }

    int unlink() {
        String path = takeLine();
        names(path);
        try {
            Map<String, Object> links = things.get(follow(path, false, 0)).links;
            if (!links.containsKey(lastName(path))) {
                throw new Trouble(1, path.lastIndexOf('/') + 1);
            }
            links.remove(lastName(path));
            int before = things.size();
            while (things.keySet().removeIf(object -> object != 0 && hardLinks(object) == 0)) {
                continue;
            }
            return before - things.size();
        } catch (Trouble trouble) {
            return tell(trouble);
        }
    }

    private int hardLinks(int object) {
        int count = 0;
        for (Thing thing : things.values()) {
            for (Object to : thing.links.values()) {
                count += to.equals(object) ? 1 : 0;
            }
        }
        return count;
    }

    int trouble(int level, boolean place) {
        there(level >= 0);
        return level >= told.size() ? NONE : told.get(level)[place ? 1 : 0];
    }

    // ---- cells

    private Thing thing(int object) {
        there(things.containsKey(object));
        return things.get(object);
    }

    private Thing arrayOf(int object) {
        there(thing(object).sort == 'a');
        return thing(object);
    }

    private Thing cellsOf(int object) {
        there(!isGroup(thing(object) == null ? 0 : object));
        return thing(object);
    }

    private static boolean has(Thing thing, int row, int column) {
        return row >= 0 && column >= 0 && row < thing.rows && column < thing.columns;
    }

    private static int chunkOf(Thing thing, int row, int column) {
        return 100 * (row / thing.chunkRows) + column / thing.chunkColumns;
    }

    private static int[] cellsOfChunk(Thing thing, int chunk) {
        int[] cells = new int[thing.chunkRows * thing.chunkColumns];
        int next = 0;
        for (int i = 0; i < thing.chunkRows; i++) {
            for (int j = 0; j < thing.chunkColumns; j++) {
                cells[next++] = 100 * (chunk / 100 * thing.chunkRows + i) + chunk % 100 * thing.chunkColumns + j;
            }
        }
        return cells;
    }

    private Integer[] file() {
        Integer[] file = new Integer[1500];
        for (Thing thing : things.values()) {
            for (Kept kept : thing.chunks.values()) {
                for (int i = 0; i < kept.bytes.length; i++) {
                    if (file[kept.place + i] != null) {
                        throw new AssertionError("two chunks at one place");
                    }
                    file[kept.place + i] = kept.bytes[i];
                }
            }
        }
        return file;
    }

    /** The numbers of a chunk by cell (100 times the row, and the column), or null, and the reason in why[0]. */
    private static Map<Integer, Integer> readChunk(Thing thing, int chunk, int[] why) {
        int[] cells = cellsOfChunk(thing, chunk);
        Map<Integer, Integer> numbers = new HashMap<>();
        why[0] = 0;
        Kept kept = thing.chunks.get(chunk);
        if (kept == null) {
            for (int cell : cells) {
                numbers.put(cell, thing.fill);
            }
            return numbers;
        }
        List<Integer> bytes = new ArrayList<>();
        for (int b : kept.bytes) {
            bytes.add(b);
        }
        int width = 1 << thing.kind;
        if ((thing.filters & 8) != 0) {
            int last = bytes.remove(bytes.size() - 1);
            if (bytes.stream().mapToInt(b -> b).sum() % 256 != last) {
                why[0] = 8;
                return null;
            }
        }
        if ((thing.filters & 4) != 0) {
            List<Integer> all = new ArrayList<>();
            for (int i = 0; i < bytes.size(); i += 2) {
                if (bytes.get(i) == 0) {
                    why[0] = 4;
                }
                for (int k = 0; k < bytes.get(i); k++) {
                    all.add(bytes.get(i + 1));
                }
            }
            if (all.size() != cells.length * width) {
                why[0] = 4;
            }
            if (why[0] != 0) {
                return null;
            }
            bytes = all;
        }
        if ((thing.filters & 2) != 0) {
            int sum = 0;
            for (int i = 0; i < bytes.size(); i++) {
                sum = (sum + bytes.get(i)) % 256;
                bytes.set(i, sum);
            }
        }
        for (int i = 0; i < cells.length; i++) {
            long number = 0;
            for (int part = width - 1; part >= 0; part--) {
                int at = (thing.filters & 1) != 0 ? part * cells.length + i : i * width + part;
                number = number * 256 + bytes.get(at);
            }
            numbers.put(cells[i], cut((int) number, thing.kind));
        }
        return numbers;
    }

    private static int cut(int value, int kind) {
        return switch (kind) {
            case 0 -> (byte) value;
            case 1 -> (char) value;
            default -> value;
        };
    }

    private static int[] filtered(Thing thing, int[] numbers) {
        int width = 1 << thing.kind;
        List<Integer> bytes = new ArrayList<>();
        if ((thing.filters & 1) != 0) {
            for (int part = 0; part < width; part++) {
                for (int number : numbers) {
                    bytes.add(number >>> (8 * part) & 255);
                }
            }
        } else {
            for (int number : numbers) {
                for (int part = 0; part < width; part++) {
                    bytes.add(number >>> (8 * part) & 255);
                }
            }
        }
        if ((thing.filters & 2) != 0) {
            List<Integer> less = new ArrayList<>();
            for (int i = 0; i < bytes.size(); i++) {
                less.add(Math.floorMod(bytes.get(i) - (i == 0 ? 0 : bytes.get(i - 1)), 256));
            }
            bytes = less;
        }
        if ((thing.filters & 4) != 0) {
            List<Integer> runs = new ArrayList<>();
            for (int i = 0; i < bytes.size();) {
                int end = i;
                while (end < bytes.size() && end - i < 255 && bytes.get(end).equals(bytes.get(i))) {
                    end++;
                }
                runs.add(end - i);
                runs.add(bytes.get(i));
                i = end;
            }
            bytes = runs;
        }
        if ((thing.filters & 8) != 0) {
            bytes.add(bytes.stream().mapToInt(b -> b).sum() % 256);
        }
        return bytes.stream().mapToInt(b -> b).toArray();
    }

    /** Keeps a chunk anew; false, and nothing done, if there is no place for it. */
    private boolean keep(Thing thing, int chunk, Map<Integer, Integer> numbers) {
        int[] cells = cellsOfChunk(thing, chunk);
        int[] row = new int[cells.length];
        boolean allFill = true;
        for (int i = 0; i < cells.length; i++) {
            row[i] = has(thing, cells[i] / 100, cells[i] % 100) ? numbers.get(cells[i]) : thing.fill;
            allFill &= row[i] == thing.fill;
        }
        Kept old = thing.chunks.remove(chunk);
        if (allFill) {
            return true;
        }
        int[] bytes = filtered(thing, row);
        Integer[] file = file();
        for (int place = 0; place + bytes.length <= 1500; place++) {
            boolean isFree = true;
            for (int i = 0; i < bytes.length && isFree; i++) {
                isFree = file[place + i] == null;
            }
            if (isFree) {
                thing.chunks.put(chunk, new Kept(place, bytes));
                return true;
            }
        }
        if (old != null) {
            thing.chunks.put(chunk, old);
        }
        return false;
    }

    private boolean put(Thing thing, int row, int column, int value) {
        int chunk = chunkOf(thing, row, column);
        Map<Integer, Integer> numbers = readChunk(thing, chunk, new int[1]);
        numbers.put(100 * row + column, value);
        if (!keep(thing, chunk, numbers)) {
            return false;
        }
        thing.written.put(100 * row + column, value);
        return true;
    }

    /** The value of a cell of an array or a view, and for what it is bad. */
    private int[] cell(Thing thing, int row, int column) {
        if (thing.sort == 'v') {
            for (int i = thing.maps.size() - 1; i >= 0; i--) {
                OneMap map = thing.maps.get(i);
                Integer source = map.cells.get(100 * row + column);
                if (source != null) {
                    Thing array = things.get(map.array);
                    boolean isThere = array != null && has(array, source / 100, source % 100);
                    return isThere ? cell(array, source / 100, source % 100) : new int[] {thing.fill, 0};
                }
            }
            return new int[] {thing.fill, 0};
        }
        int[] why = new int[1];
        Map<Integer, Integer> numbers = readChunk(thing, chunkOf(thing, row, column), why);
        return new int[] {numbers == null ? 0 : numbers.get(100 * row + column), why[0]};
    }

    int write(int object, int row, int column, int value) {
        Thing thing = arrayOf(object);
        there(has(thing, row, column));
        need(isOfKind(value, thing.kind));
        int[] before = cell(thing, row, column);
        state(before[1] == 0);
        state(put(thing, row, column, value));
        return before[0];
    }

    int read(int object, int row, int column) {
        Thing thing = cellsOf(object);
        there(has(thing, row, column));
        int[] cell = cell(thing, row, column);
        state(cell[1] == 0);
        return cell[0];
    }

    int bad(int object, int row, int column) {
        Thing thing = cellsOf(object);
        there(has(thing, row, column));
        return cell(thing, row, column)[1];
    }

    int plain(int object, int row, int column) {
        Thing thing = arrayOf(object);
        there(has(thing, row, column));
        return thing.written.getOrDefault(100 * row + column, thing.fill);
    }

    int spoil(int object, int row, int column, int which) {
        Thing thing = arrayOf(object);
        there(has(thing, row, column));
        Kept kept = thing.chunks.get(chunkOf(thing, row, column));
        there(kept != null && which >= 0 && which < kept.bytes.length);
        kept.bytes[which] = 255 - kept.bytes[which];
        return kept.place + which;
    }

    int resize(int object, int shape) {
        Thing thing = arrayOf(object);
        need(isPair(shape, 100, 1, 24));
        int before = used(false);
        int oldRows = thing.rows;
        int oldColumns = thing.columns;
        TreeMap<Integer, Kept> oldChunks = new TreeMap<>(thing.chunks);
        thing.rows = shape / 100;
        thing.columns = shape % 100;
        for (int chunk : oldChunks.keySet()) {
            if (Arrays.stream(cellsOfChunk(thing, chunk)).noneMatch(c -> has(thing, c / 100, c % 100))) {
                thing.chunks.remove(chunk);
            }
        }
        for (int chunk : new ArrayList<>(thing.chunks.keySet())) {
            Map<Integer, Integer> numbers = readChunk(thing, chunk, new int[1]);
            boolean hasMore = numbers != null && Arrays.stream(cellsOfChunk(thing, chunk))
                    .anyMatch(c -> !has(thing, c / 100, c % 100) && numbers.get(c) != thing.fill);
            if (hasMore && !keep(thing, chunk, numbers)) {
                thing.rows = oldRows;
                thing.columns = oldColumns;
                thing.chunks = oldChunks;
                throw new IllegalStateException();
            }
        }
        thing.written.keySet().removeIf(c -> !has(thing, c / 100, c % 100));
        return before - used(false);
    }

    // ---- selections, views

    private TreeSet<Integer> selection(int which) {
        there(which == 0 || which == 1);
        return selections.get(which);
    }

    int clear(int which) {
        int count = selection(which).size();
        selection(which).clear();
        return count;
    }

    int slab(int which, int from, int rows, int columns, int steps) {
        TreeSet<Integer> selection = selection(which);
        there(isPair(from, 100, 0, 23));
        need(rows >= 1 && rows <= 24 && columns >= 1 && columns <= 24 && isPair(steps, 10, 1, 9));
        TreeSet<Integer> slab = new TreeSet<>();
        for (int i = 0; i < rows; i++) {
            for (int j = 0; j < columns; j++) {
                int row = from / 100 + i * (steps / 10);
                int column = from % 100 + j * (steps % 10);
                there(row < 24 && column < 24);
                slab.add(100 * row + column);
            }
        }
        selection.addAll(slab);
        return selection.size();
    }

    private static void within(Thing thing, TreeSet<Integer> selection) {
        for (int cell : selection) {
            there(has(thing, cell / 100, cell % 100));
        }
    }

    int copy(int from, int to) {
        Thing source = cellsOf(from);
        Thing target = arrayOf(to);
        within(source, selections.get(0));
        within(target, selections.get(1));
        need(selections.get(0).size() == selections.get(1).size());
        List<Integer> values = new ArrayList<>();
        for (int c : selections.get(0)) {
            int[] cell = cell(source, c / 100, c % 100);
            state(cell[1] == 0);
            values.add(cell[0]);
        }
        for (int c : selections.get(1)) {
            state(cell(target, c / 100, c % 100)[1] == 0);
        }
        int written = 0;
        for (int c : selections.get(1)) {
            if (!put(target, c / 100, c % 100, cut(values.get(written), target.kind))) {
                return written;
            }
            written++;
        }
        return written;
    }

    int map(int view, int array) {
        Thing target = thing(view);
        arrayOf(array);
        there(target.sort == 'v');
        within(target, selections.get(1));
        need(selections.get(0).size() == selections.get(1).size());
        state(target.maps.size() < 6);
        OneMap map = new OneMap();
        map.array = array;
        List<Integer> cells = new ArrayList<>(selections.get(0));
        for (int c : selections.get(1)) {
            map.cells.put(c, cells.get(map.cells.size()));
        }
        target.maps.add(map);
        return target.maps.size();
    }

    // ---- what there is

    int object(int object, int what) {
        Thing thing = thing(object);
        return switch (what) {
            case 0 -> "gav".indexOf(thing.sort);
            case 1 -> hardLinks(object);
            case 2 -> thing.sort == 'g' ? thing.links.size() : 100 * thing.rows + thing.columns;
            case 3 -> thing.chunks.size();
            case 4 -> thing.chunks.values().stream().mapToInt(k -> k.bytes.length).sum();
            default -> throw new IllegalArgumentException();
        };
    }

    int fileAt(int place) {
        there(place >= 0 && place < 1500);
        Integer b = file()[place];
        return b == null ? NONE : b;
    }

    int used(boolean holes) {
        StringBuilder signs = new StringBuilder();
        for (Integer b : file()) {
            signs.append(b == null ? '.' : '#');
        }
        if (!holes) {
            return (int) signs.chars().filter(c -> c == '#').count();
        }
        int count = 0;
        for (String piece : signs.toString().split("#+")) {
            count += piece.isEmpty() ? 0 : 1;
        }
        return count;
    }
}
