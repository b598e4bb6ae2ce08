import java.util.Arrays;

/** A file of arrays in groups with hard and soft links; ../shared/DOC.md says what each call answers. */
public final class ArrayFile {
    public static final int NONE = -1;
    public static final int MISSING = 1, NO_GROUP = 2, DEEP = 3;

    private static final int OBJECTS = 30;
    private static final int LINE = 48;
    private static final int NAMES = 8;
    private static final int LETTERS = 4;
    private static final int LINKS = 12;
    private static final int MAPS = 6;
    private static final int SOFT_LINKS = 4;
    private static final int SIDE = 24;
    private static final int CELLS = 576;
    private static final int CHUNK_SIDE = 8;
    private static final int CHUNK_CELLS = 64;
    private static final int FILE_BYTES = 1500;
    private static final int RAW_BYTES = 256;
    private static final int PACKED_BYTES = 513;
    private static final int LONGEST_RUN = 255;
    private static final int SHUFFLE = 1, DIFFERENCES = 2, RUNS = 4, SUM = 8, ALL_FILTERS = 15;

    private static final int[] WIDTHS = {1, 2, 4};
    private static final int[] LOWEST = {-128, 0, -2147483648};
    private static final int[] HIGHEST = {127, 65535, 2147483647};

    private final int[] line = new int[LINE];
    private int lineLength;
    private final Path path = new Path();
    private final Path softPath = new Path();
    private final Node[] nodes = new Node[OBJECTS];
    private int made;
    private int troubleKind;
    private int troubleLevels;
    private final int[] troublePlaces = new int[SOFT_LINKS + 1];
    private final Selection[] selections = new Selection[2];
    private final int[] values = new int[CELLS];
    private final Chunks chunks = new Chunks();
    /** The value of the cell that was looked at last: look() itself answers whether it is bad. */
    private int seen;

    public ArrayFile() {
        nodes[0] = new Group();
        made = 1;
        selections[0] = new Selection();
        selections[1] = new Selection();
    }

    // ---- the line, links

    public int type(long signs) throws IllegalArgumentException, IllegalStateException {
        int count = countSigns(signs);
        if (count == NONE) {
            throw new IllegalArgumentException();
        }
        if (lineLength + count > LINE) {
            throw new IllegalStateException();
        }
        for (int i = 0; i < count; i++) {
            line[lineLength] = signAt(signs, i);
            lineLength++;
        }
        return lineLength;
    }

    public int find() throws IllegalArgumentException {
        if (!takePath()) {
            throw new IllegalArgumentException();
        }
        return walk(path, path.count, true, 0);
    }

    public int group() throws IllegalArgumentException, IllegalStateException {
        if (!takePath()) {
            throw new IllegalArgumentException();
        }
        Group parent = parentOfNewObject();
        return parent == null ? NONE : add(parent, new Group());
    }

    public int array(int shape, int kind, int chunk, int filters, int fill)
            throws IllegalArgumentException, IllegalStateException {
        boolean isPath = takePath();
        if (!isPath || !isShape(shape) || !isKind(kind) || !isChunk(chunk)
                || filters < 0 || filters > ALL_FILTERS || !isOfKind(fill, kind)) {
            throw new IllegalArgumentException();
        }
        Group parent = parentOfNewObject();
        return parent == null ? NONE : add(parent, new Table(shape, kind, chunk, filters, fill));
    }

    public int view(int shape, int fill) throws IllegalArgumentException, IllegalStateException {
        boolean isPath = takePath();
        if (!isPath || !isShape(shape)) {
            throw new IllegalArgumentException();
        }
        Group parent = parentOfNewObject();
        return parent == null ? NONE : add(parent, new View(shape, fill));
    }

    public int link(int object) throws IndexOutOfBoundsException, IllegalArgumentException, IllegalStateException {
        Node target = object == NONE ? null : nodeAt(object);
        boolean isTold = target == null ? takeTwoPaths() : takePath();
        if (!isTold) {
            throw new IllegalArgumentException();
        }
        Group parent = parentWithRoom();
        if (parent == null) {
            return NONE;
        }
        if (target == null) {
            parent.addLink(path.last(), NONE, new Path(softPath));
        } else {
            parent.addLink(path.last(), object, null);
            target.hardLinks++;
        }
        return parent.count;
    }

    public int unlink() throws IllegalArgumentException {
        if (!takePath()) {
            throw new IllegalArgumentException();
        }
        Group parent = groupOrNull(walk(path, path.count - 1, false, 0));
        if (parent == null) {
            return NONE;
        }
        int index = parent.seek(path.last());
        if (index == NONE) {
            return tellTrouble(MISSING, path.starts[path.count - 1], 0);
        }
        loosen(parent.targets[index]);
        parent.removeLink(index);
        return dropUnlinked();
    }

    public int trouble(int level, boolean place) throws IndexOutOfBoundsException {
        if (level < 0) {
            throw new IndexOutOfBoundsException();
        }
        if (level >= troubleLevels || level >= troublePlaces.length) {
            return NONE;
        }
        return place ? troublePlaces[level] : troubleKind;
    }

    // ---- cells

    public int write(int object, int row, int column, int value)
            throws IndexOutOfBoundsException, IllegalArgumentException, IllegalStateException {
        Table table = tableAt(object);
        checkCell(table, row, column);
        if (!isOfKind(value, table.kind)) {
            throw new IllegalArgumentException();
        }
        if (look(table, row, column) != 0) {
            throw new IllegalStateException();
        }
        int before = seen;
        if (!chunks.change(table, row, column, value)) {
            throw new IllegalStateException();
        }
        return before;
    }

    public int read(int object, int row, int column) throws IndexOutOfBoundsException, IllegalStateException {
        Grid grid = gridAt(object);
        checkCell(grid, row, column);
        if (look(grid, row, column) != 0) {
            throw new IllegalStateException();
        }
        return seen;
    }

    public int bad(int object, int row, int column) throws IndexOutOfBoundsException {
        Grid grid = gridAt(object);
        checkCell(grid, row, column);
        return look(grid, row, column);
    }

    public int plain(int object, int row, int column) throws IndexOutOfBoundsException {
        Table table = tableAt(object);
        checkCell(table, row, column);
        return table.written[row * SIDE + column];
    }

    public int spoil(int object, int row, int column, int which) throws IndexOutOfBoundsException {
        Table table = tableAt(object);
        checkCell(table, row, column);
        int chunk = table.chunkAt(row, column);
        if (which < 0 || which >= table.lengths[chunk]) {
            throw new IndexOutOfBoundsException();
        }
        int place = table.places[chunk] + which;
        chunks.flip(place);
        return place;
    }

    public int resize(int object, int shape)
            throws IndexOutOfBoundsException, IllegalArgumentException, IllegalStateException {
        Table table = tableAt(object);
        if (!isShape(shape)) {
            throw new IllegalArgumentException();
        }
        int before = chunks.disk.taken;
        if (!chunks.reshape(table, shape / 100, shape % 100)) {
            throw new IllegalStateException();
        }
        return before - chunks.disk.taken;
    }

    // ---- selections, views

    public int clear(int which) throws IndexOutOfBoundsException {
        Selection selection = selectionAt(which);
        int count = selection.count;
        selection.empty();
        return count;
    }

    public int slab(int which, int from, int rows, int columns, int steps)
            throws IndexOutOfBoundsException, IllegalArgumentException {
        Selection selection = selectionAt(which);
        int row = from / 100;
        int column = from % 100;
        if (row < 0 || row >= SIDE || column < 0 || column >= SIDE) {
            throw new IndexOutOfBoundsException();
        }
        int down = steps / 10;
        int right = steps % 10;
        if (rows < 1 || rows > SIDE || columns < 1 || columns > SIDE || down < 1 || down > 9 || right < 1) {
            throw new IllegalArgumentException();
        }
        if (row + (rows - 1) * down >= SIDE || column + (columns - 1) * right >= SIDE) {
            throw new IndexOutOfBoundsException();
        }
        for (int i = 0; i < rows; i++) {
            for (int j = 0; j < columns; j++) {
                selection.add((row + i * down) * SIDE + column + j * right);
            }
        }
        return selection.count;
    }

    public int copy(int from, int to)
            throws IndexOutOfBoundsException, IllegalArgumentException, IllegalStateException {
        Grid source = gridAt(from);
        Table target = tableAt(to);
        if (!selections[0].isWithin(source) || !selections[1].isWithin(target)) {
            throw new IndexOutOfBoundsException();
        }
        if (selections[0].count != selections[1].count) {
            throw new IllegalArgumentException();
        }
        if (!readSelected(source) || !areGood(target)) {
            throw new IllegalStateException();
        }
        return writeSelected(target);
    }

    public int map(int view, int array)
            throws IndexOutOfBoundsException, IllegalArgumentException, IllegalStateException {
        View target = viewOrNull(nodeAt(view));
        tableAt(array);
        if (target == null || !selections[1].isWithin(target)) {
            throw new IndexOutOfBoundsException();
        }
        if (selections[0].count != selections[1].count) {
            throw new IllegalArgumentException();
        }
        if (target.maps >= MAPS) {
            throw new IllegalStateException();
        }
        int[] own = selections[1].sorted();
        int[] others = selections[0].sorted();
        for (int i = 0; i < selections[1].count; i++) {
            target.sources[own[i]] = array * CELLS + others[i];
        }
        target.maps++;
        return target.maps;
    }

    // ---- what there is

    public int object(int object, int what) throws IndexOutOfBoundsException, IllegalArgumentException {
        Node node = nodeAt(object);
        switch (what) {
            case 0:
                return node.sort();
            case 1:
                return node.hardLinks;
            case 2:
                return node.extent();
            case 3:
                return node.keptChunks();
            case 4:
                return node.keptBytes();
            default:
                throw new IllegalArgumentException();
        }
    }

    public int fileAt(int place) throws IndexOutOfBoundsException {
        if (place < 0 || place >= FILE_BYTES) {
            throw new IndexOutOfBoundsException();
        }
        return chunks.disk.bytes[place];
    }

    public int used(boolean holes) {
        return holes ? chunks.disk.countHoles() : chunks.disk.taken;
    }

    // ---- the arguments

    private static int signAt(long signs, int i) {
        return (int) (signs >>> (8 * i)) & 255;
    }

    /** How many signs there are, or NONE if one is out of range or stands behind 8 bits of 0. */
    private static int countSigns(long signs) {
        int count = 0;
        for (int i = 0; i < 8; i++) {
            int sign = signAt(signs, i);
            if (sign != 0) {
                if (sign < 32 || sign > 126 || count != i) {
                    return NONE;
                }
                count++;
            }
        }
        return count;
    }

    private static boolean isShape(int shape) {
        int rows = shape / 100;
        int columns = shape % 100;
        return rows >= 1 && rows <= SIDE && columns >= 1 && columns <= SIDE;
    }

    private static boolean isChunk(int chunk) {
        int rows = chunk / 10;
        int columns = chunk % 10;
        return rows >= 1 && rows <= CHUNK_SIDE && columns >= 1 && columns <= CHUNK_SIDE;
    }

    private static boolean isKind(int kind) {
        return kind >= 0 && kind < WIDTHS.length;
    }

    private static boolean isOfKind(int value, int kind) {
        return isKind(kind) && value >= LOWEST[kind] && value <= HIGHEST[kind];
    }

    /** A number cut to its lowest bytes, as many as the kind has; numbers of the kind stay what they are. */
    private static int cut(int value, int kind) {
        return kind == 0 ? (byte) value : kind == 1 ? value & 65535 : value;
    }

    private Node nodeOrNull(int object) {
        return object >= 0 && object < made ? nodes[object] : null;
    }

    private Node nodeAt(int object) {
        Node node = nodeOrNull(object);
        if (node == null) {
            throw new IndexOutOfBoundsException();
        }
        return node;
    }

    private Group groupOrNull(int object) {
        return nodeOrNull(object) instanceof Group group ? group : null;
    }

    private Table tableOrNull(int object) {
        return nodeOrNull(object) instanceof Table table ? table : null;
    }

    private static View viewOrNull(Node node) {
        return node instanceof View view ? view : null;
    }

    private Table tableAt(int object) {
        Table table = tableOrNull(object);
        if (table == null) {
            throw new IndexOutOfBoundsException();
        }
        return table;
    }

    private Grid gridAt(int object) {
        if (nodeOrNull(object) instanceof Grid grid) {
            return grid;
        }
        throw new IndexOutOfBoundsException();
    }

    private Selection selectionAt(int which) {
        if (which < 0 || which >= selections.length) {
            throw new IndexOutOfBoundsException();
        }
        return selections[which];
    }

    private static void checkCell(Grid grid, int row, int column) {
        if (!grid.has(row, column)) {
            throw new IndexOutOfBoundsException();
        }
    }

    // ---- links

    /** Reads the line as a path, and empties it; false if it is none. */
    private boolean takePath() {
        boolean isPath = path.parse(line, 0, lineLength);
        lineLength = 0;
        return isPath;
    }

    /** Reads the line as a path, the sign > and the path of a soft link, and empties it. */
    private boolean takeTwoPaths() {
        int length = lineLength;
        lineLength = 0;
        for (int i = 0; i < length; i++) {
            if (line[i] == '>') {
                return path.parse(line, 0, i) && softPath.parse(line, i + 1, length);
            }
        }
        return false;
    }

    /** Keeps the trouble that the call is to tell; levels above it are set as the walk goes back. */
    private int tellTrouble(int kind, int place, int depth) {
        troubleKind = kind;
        troubleLevels = depth + 1;
        troublePlaces[depth] = place;
        return NONE;
    }

    /** Goes by the first names of a path from the root; depth counts the soft links that it is within. */
    private int walk(Path by, int names, boolean lastIsFree, int depth) {
        int at = 0;
        for (int i = 0; i < names; i++) {
            int next = step(groupOrNull(at), by, i, depth);
            if (next == NONE) {
                return NONE;
            }
            boolean isFree = lastIsFree && i == names - 1;
            if (!isFree && groupOrNull(next) == null) {
                return tellTrouble(NO_GROUP, by.starts[i], depth);
            }
            at = next;
        }
        return at;
    }

    /** What the link of one name of a path leads to. */
    private int step(Group from, Path by, int i, int depth) {
        int index = from == null ? NONE : from.seek(by.names[i]);
        if (from == null || index == NONE) {
            return tellTrouble(MISSING, by.starts[i], depth);
        }
        Path soft = from.paths[index];
        if (soft == null) {
            return from.targets[index];
        }
        if (depth >= SOFT_LINKS) {
            return tellTrouble(DEEP, by.starts[i], depth);
        }
        int end = walk(soft, soft.count, true, depth + 1);
        if (end == NONE) {
            troublePlaces[depth] = by.starts[i];
        }
        return end;
    }

    /** The group that gets a link of the path's last name; null if the path ahead of it is in trouble. */
    private Group parentWithRoom() {
        Group parent = groupOrNull(walk(path, path.count - 1, false, 0));
        if (parent != null && (parent.count >= LINKS || parent.seek(path.last()) != NONE)) {
            throw new IllegalStateException();
        }
        return parent;
    }

    private Group parentOfNewObject() {
        if (made >= OBJECTS) {
            throw new IllegalStateException();
        }
        return parentWithRoom();
    }

    private int add(Group parent, Node node) {
        int number = made;
        nodes[number] = node;
        node.hardLinks = 1;
        made++;
        parent.addLink(path.last(), number, null);
        return number;
    }

    private void loosen(int object) {
        Node node = nodeOrNull(object);
        if (node != null) {
            node.hardLinks--;
        }
    }

    /** Drops objects to which no hard link leads, the lowest first, until there is none. */
    private int dropUnlinked() {
        int gone = 0;
        for (int turn = 0; turn < OBJECTS; turn++) {
            int lowest = lowestUnlinked();
            if (lowest == NONE) {
                return gone;
            }
            dropObject(lowest);
            gone++;
        }
        return gone;
    }

    private int lowestUnlinked() {
        for (int i = 1; i < made; i++) {
            if (nodes[i] != null && nodes[i].hardLinks == 0) {
                return i;
            }
        }
        return NONE;
    }

    private void dropObject(int object) {
        Node node = nodes[object];
        nodes[object] = null;
        if (node instanceof Group group) {
            for (int i = 0; i < group.count; i++) {
                loosen(group.targets[i]);
            }
        }
        if (node instanceof Table table) {
            chunks.dropAll(table);
        }
    }

    // ---- cells

    /** Looks at a cell of an array or a view: for what it is bad, and, if it is not, its value in seen. */
    private int look(Grid grid, int row, int column) {
        seen = grid.fill;
        if (grid instanceof View view) {
            int source = view.sources[row * SIDE + column];
            Table table = source == NONE ? null : tableOrNull(source / CELLS);
            int cell = source % CELLS;
            return table == null || !table.has(cell / SIDE, cell % SIDE) ? 0 : lookInto(table, cell);
        }
        return grid instanceof Table table ? lookInto(table, row * SIDE + column) : 0;
    }

    private int lookInto(Table table, int cell) {
        int row = cell / SIDE;
        int column = cell % SIDE;
        int badness = chunks.load(table, table.chunkAt(row, column));
        seen = chunks.cells[table.placeInChunk(row, column)];
        return badness;
    }

    /** Reads the cells of the selection 0 into values; false if one is bad. */
    private boolean readSelected(Grid source) {
        int[] cells = selections[0].sorted();
        for (int i = 0; i < selections[0].count; i++) {
            if (look(source, cells[i] / SIDE, cells[i] % SIDE) != 0) {
                return false;
            }
            values[i] = seen;
        }
        return true;
    }

    private boolean areGood(Table target) {
        int[] cells = selections[1].sorted();
        for (int i = 0; i < selections[1].count; i++) {
            if (look(target, cells[i] / SIDE, cells[i] % SIDE) != 0) {
                return false;
            }
        }
        return true;
    }

    private int writeSelected(Table target) {
        int[] cells = selections[1].sorted();
        for (int i = 0; i < selections[1].count; i++) {
            int value = cut(values[i], target.kind);
            if (!chunks.change(target, cells[i] / SIDE, cells[i] % SIDE, value)) {
                return i;
            }
        }
        return selections[1].count;
    }

    /** A path of names; a name is kept as one number, 5 bits a letter, so that names are compared at once. */
    private static final class Path {
        int count;
        final int[] names;
        final int[] starts;

        Path() {
            names = new int[NAMES];
            starts = new int[NAMES];
        }

        Path(Path other) {
            count = other.count;
            names = other.names.clone();
            starts = other.starts.clone();
        }

        int last() {
            return count > 0 ? names[count - 1] : 0;
        }

        /** Reads the path that the signs from one place up to another are; false if they are none. */
        boolean parse(int[] signs, int from, int to) {
            count = 0;
            int name = 0;
            int letters = 0;
            for (int i = from; i <= to; i++) {
                int sign = i < to ? signs[i] : '/';
                if (sign == '/') {
                    if (letters == 0 || count >= NAMES) {
                        return false;
                    }
                    names[count] = name;
                    starts[count] = i - letters - from;
                    count++;
                    name = 0;
                    letters = 0;
                } else if (sign >= 'a' && sign <= 'z' && letters < LETTERS) {
                    name = name * 32 + sign - 'a' + 1;
                    letters++;
                } else {
                    return false;
                }
            }
            return true;
        }
    }

    /** An object of the file. */
    private abstract static class Node {
        int hardLinks;

        abstract int sort();

        abstract int extent();

        int keptChunks() {
            return 0;
        }

        int keptBytes() {
            return 0;
        }
    }

    /** A group: a link has a path if it is a soft one, otherwise the number of an object. */
    private static final class Group extends Node {
        int count;
        final int[] names = new int[LINKS];
        final int[] targets = new int[LINKS];
        final Path[] paths = new Path[LINKS];

        int sort() {
            return 0;
        }

        int extent() {
            return count;
        }

        int seek(int name) {
            for (int i = 0; i < count; i++) {
                if (names[i] == name) {
                    return i;
                }
            }
            return NONE;
        }

        void addLink(int name, int target, Path soft) {
            if (count < LINKS) {
                names[count] = name;
                targets[count] = target;
                paths[count] = soft;
                count++;
            }
        }

        /** The last link takes the place of the one that goes: no call tells the order of links. */
        void removeLink(int index) {
            count--;
            names[index] = names[count];
            targets[index] = targets[count];
            paths[index] = paths[count];
            paths[count] = null;
        }
    }

    /** What has cells that can be read: an array or a view. */
    private abstract static class Grid extends Node {
        int rows;
        int columns;
        final int fill;

        Grid(int shape, int fill) {
            rows = shape / 100;
            columns = shape % 100;
            this.fill = fill;
        }

        int extent() {
            return 100 * rows + columns;
        }

        boolean has(int row, int column) {
            return row >= 0 && row < rows && column >= 0 && column < columns;
        }
    }

    /** An array. Chunks are numbered as if there were 24 in a row, so that other extents leave their numbers. */
    private static final class Table extends Grid {
        final int kind;
        final int chunkRows;
        final int chunkColumns;
        final int chunkCells;
        final int width;
        final int filters;
        /** How far the bytes of two cells that follow are from one another, and those of one cell. */
        final int cellStep;
        final int byteStep;
        final int[] written = new int[CELLS];
        final int[] places = new int[CELLS];
        final int[] lengths = new int[CELLS];
        int kept;
        int keptLength;

        Table(int shape, int kind, int chunk, int filters, int fill) {
            super(shape, fill);
            this.kind = kind;
            this.filters = filters;
            chunkRows = chunk / 10;
            chunkColumns = chunk % 10;
            chunkCells = chunkRows * chunkColumns;
            width = WIDTHS[kind];
            cellStep = (filters & SHUFFLE) != 0 ? 1 : width;
            byteStep = (filters & SHUFFLE) != 0 ? chunkCells : 1;
            Arrays.fill(written, fill);
            Arrays.fill(places, NONE);
        }

        int sort() {
            return 1;
        }

        int keptChunks() {
            return kept;
        }

        int keptBytes() {
            return keptLength;
        }

        int chunkAt(int row, int column) {
            return row / chunkRows * SIDE + column / chunkColumns;
        }

        int placeInChunk(int row, int column) {
            return row % chunkRows * chunkColumns + column % chunkColumns;
        }

        int firstRow(int chunk) {
            return chunk / SIDE * chunkRows;
        }

        int firstColumn(int chunk) {
            return chunk % SIDE * chunkColumns;
        }

        boolean isBeyond(int chunk) {
            return !has(firstRow(chunk), firstColumn(chunk));
        }

        boolean isWithin(int chunk) {
            return has(firstRow(chunk) + chunkRows - 1, firstColumn(chunk) + chunkColumns - 1);
        }

        void forgetBeyond() {
            for (int i = 0; i < CELLS; i++) {
                if (!has(i / SIDE, i % SIDE)) {
                    written[i] = fill;
                }
            }
        }
    }

    /** A view. Only the latest map that has a cell counts, so one source a cell is all that is kept of the maps. */
    private static final class View extends Grid {
        int maps;
        final int[] sources = new int[CELLS];

        View(int shape, int fill) {
            super(shape, fill);
            Arrays.fill(sources, NONE);
        }

        int sort() {
            return 2;
        }
    }

    /** A set of cells, of rows of 24. */
    private static final class Selection {
        int count;
        private final boolean[] selected = new boolean[CELLS];
        private final int[] order = new int[CELLS];

        void empty() {
            for (int i = 0; i < CELLS; i++) {
                selected[i] = false;
            }
            count = 0;
        }

        void add(int cell) {
            if (!selected[cell]) {
                selected[cell] = true;
                count++;
            }
        }

        boolean isWithin(Grid grid) {
            for (int i = 0; i < CELLS; i++) {
                if (selected[i] && !grid.has(i / SIDE, i % SIDE)) {
                    return false;
                }
            }
            return true;
        }

        /** The cells in their order, as many as count tells. */
        int[] sorted() {
            int next = 0;
            for (int i = 0; i < CELLS; i++) {
                if (selected[i]) {
                    order[next] = i;
                    next++;
                }
            }
            return order;
        }
    }

    /** The bytes of the file, NONE where they are free. */
    private static final class Disk {
        int taken;
        final int[] bytes = new int[FILE_BYTES];
        private int savedTaken;
        private final int[] savedBytes = new int[FILE_BYTES];

        Disk() {
            Arrays.fill(bytes, NONE);
        }

        /** The lowest place for so many bytes, where those of the old place count as free; or NONE. */
        int seek(int length, int oldPlace, int oldLength) {
            int free = 0;
            for (int i = 0; i < FILE_BYTES; i++) {
                boolean isOld = i >= oldPlace && i < oldPlace + oldLength;
                free = isOld || bytes[i] == NONE ? free + 1 : 0;
                if (free >= length) {
                    return i + 1 - length;
                }
            }
            return NONE;
        }

        void put(int[] from, int length, int place) {
            System.arraycopy(from, 0, bytes, place, length);
            taken += length;
        }

        void giveBack(int place, int length) {
            Arrays.fill(bytes, place, place + length, NONE);
            taken -= length;
        }

        int countHoles() {
            int holes = 0;
            for (int i = 0; i < FILE_BYTES; i++) {
                if (bytes[i] == NONE && (i == 0 || bytes[i - 1] != NONE)) {
                    holes++;
                }
            }
            return holes;
        }

        void save() {
            savedTaken = taken;
            System.arraycopy(bytes, 0, savedBytes, 0, FILE_BYTES);
        }

        void restore() {
            taken = savedTaken;
            System.arraycopy(savedBytes, 0, bytes, 0, FILE_BYTES);
        }
    }

    /** Turns the cells of a chunk into the bytes that the file keeps, and back. */
    private static final class Filters {
        private final int[] raw = new int[RAW_BYTES];
        final int[] packed = new int[PACKED_BYTES];

        /** Packs the cells of a chunk; answers how many bytes these are. */
        int pack(Table table, int[] cells) {
            int size = table.chunkCells * table.width;
            layBytes(table, cells);
            if ((table.filters & DIFFERENCES) != 0) {
                for (int i = size - 1; i > 0; i--) {
                    raw[i] = (raw[i] - raw[i - 1]) & 255;
                }
            }
            int length = size;
            if ((table.filters & RUNS) != 0) {
                length = packRuns(size);
            } else {
                System.arraycopy(raw, 0, packed, 0, size);
            }
            if ((table.filters & SUM) != 0) {
                packed[length] = sumOf(length);
                length++;
            }
            return length;
        }

        /** Unpacks the bytes of a chunk into its cells; answers for what it is bad, or 0. */
        int unpack(Table table, int[] bytes, int place, int length, int[] cells) {
            int size = table.chunkCells * table.width;
            System.arraycopy(bytes, place, packed, 0, length);
            int rest = length;
            if ((table.filters & SUM) != 0) {
                rest--;
                if (packed[rest] != sumOf(rest)) {
                    return SUM;
                }
            }
            if ((table.filters & RUNS) == 0) {
                System.arraycopy(packed, 0, raw, 0, size);
            } else if (!unpackRuns(rest, size)) {
                return RUNS;
            }
            if ((table.filters & DIFFERENCES) != 0) {
                for (int i = 1; i < size; i++) {
                    raw[i] = (raw[i] + raw[i - 1]) & 255;
                }
            }
            takeBytes(table, cells);
            return 0;
        }

        private void layBytes(Table table, int[] cells) {
            for (int i = 0; i < table.chunkCells; i++) {
                for (int part = 0; part < table.width; part++) {
                    raw[i * table.cellStep + part * table.byteStep] = (cells[i] >> (8 * part)) & 255;
                }
            }
        }

        private void takeBytes(Table table, int[] cells) {
            for (int i = 0; i < table.chunkCells; i++) {
                int value = 0;
                for (int part = 0; part < table.width; part++) {
                    value |= raw[i * table.cellStep + part * table.byteStep] << (8 * part);
                }
                cells[i] = table.kind == 0 ? (byte) value : value;
            }
        }

        private int packRuns(int size) {
            int length = 0;
            int run = 0;
            for (int i = 0; i < size; i++) {
                run++;
                if (i + 1 == size || raw[i + 1] != raw[i] || run == LONGEST_RUN) {
                    packed[length] = run;
                    packed[length + 1] = raw[i];
                    length += 2;
                    run = 0;
                }
            }
            return length;
        }

        private boolean unpackRuns(int length, int size) {
            int next = 0;
            for (int i = 0; i + 1 < length; i += 2) {
                int run = packed[i];
                if (run == 0 || next + run > size) {
                    return false;
                }
                Arrays.fill(raw, next, next + run, packed[i + 1]);
                next += run;
            }
            return next == size;
        }

        private int sumOf(int length) {
            int sum = 0;
            for (int i = 0; i < length; i++) {
                sum += packed[i];
            }
            return sum & 255;
        }
    }

    /** The chunks of all arrays, and the cells of the one that was read last, which are not read twice. */
    private static final class Chunks {
        final Disk disk = new Disk();
        final int[] cells = new int[CHUNK_CELLS];
        private final Filters filters = new Filters();
        private Table loaded;
        private int loadedChunk;
        private int loadedBadness;
        private final int[] savedPlaces = new int[CELLS];
        private final int[] savedLengths = new int[CELLS];

        /** Reads a chunk into cells; answers for what it is bad (cells mean nothing then), or 0. */
        int load(Table table, int chunk) {
            if (loaded == table && loadedChunk == chunk) {
                return loadedBadness;
            }
            loaded = table;
            loadedChunk = chunk;
            if (table.places[chunk] == NONE) {
                Arrays.fill(cells, table.fill);
                loadedBadness = 0;
            } else {
                loadedBadness = filters.unpack(table, disk.bytes, table.places[chunk], table.lengths[chunk], cells);
            }
            return loadedBadness;
        }

        /** Turns the bits of a byte of the file; a chunk that was read before has to be read again. */
        void flip(int place) {
            disk.bytes[place] ^= 255;
            loaded = null;
        }

        /** Writes a cell of a chunk that is not bad; false, and nothing done, if the file has no place for it. */
        boolean change(Table table, int row, int column, int value) {
            int chunk = table.chunkAt(row, column);
            load(table, chunk);
            cells[table.placeInChunk(row, column)] = value;
            blankBeyond(table, chunk);
            if (!keep(table, chunk)) {
                return false;
            }
            table.written[row * SIDE + column] = value;
            return true;
        }

        /** Gives an array other extents; false, and nothing done, if the file has no place for a chunk. */
        boolean reshape(Table table, int rows, int columns) {
            int oldRows = table.rows;
            int oldColumns = table.columns;
            int oldKept = table.kept;
            int oldLength = table.keptLength;
            disk.save();
            System.arraycopy(table.places, 0, savedPlaces, 0, CELLS);
            System.arraycopy(table.lengths, 0, savedLengths, 0, CELLS);
            loaded = null;
            table.rows = rows;
            table.columns = columns;
            dropBeyond(table);
            if (trim(table)) {
                table.forgetBeyond();
                return true;
            }
            disk.restore();
            System.arraycopy(savedPlaces, 0, table.places, 0, CELLS);
            System.arraycopy(savedLengths, 0, table.lengths, 0, CELLS);
            table.rows = oldRows;
            table.columns = oldColumns;
            table.kept = oldKept;
            table.keptLength = oldLength;
            return false;
        }

        void dropAll(Table table) {
            for (int chunk = 0; chunk < CELLS; chunk++) {
                drop(table, chunk);
            }
        }

        private void dropBeyond(Table table) {
            for (int chunk = 0; chunk < CELLS; chunk++) {
                if (table.isBeyond(chunk)) {
                    drop(table, chunk);
                }
            }
        }

        /** Keeps the chunks anew that have something else than the fill value beyond the array. */
        private boolean trim(Table table) {
            for (int chunk = 0; chunk < CELLS; chunk++) {
                boolean isPartlyBeyond = table.places[chunk] != NONE && !table.isWithin(chunk);
                if (isPartlyBeyond && load(table, chunk) == 0 && blankBeyond(table, chunk) && !keep(table, chunk)) {
                    return false;
                }
            }
            return true;
        }

        /** Gives the cells of the loaded chunk beyond the array the fill value; answers if one had another. */
        private boolean blankBeyond(Table table, int chunk) {
            boolean hasChanged = false;
            for (int i = 0; i < table.chunkCells; i++) {
                int row = table.firstRow(chunk) + i / table.chunkColumns;
                int column = table.firstColumn(chunk) + i % table.chunkColumns;
                if (cells[i] != table.fill && !table.has(row, column)) {
                    cells[i] = table.fill;
                    hasChanged = true;
                }
            }
            return hasChanged;
        }

        private boolean isBlank(Table table) {
            for (int i = 0; i < table.chunkCells; i++) {
                if (cells[i] != table.fill) {
                    return false;
                }
            }
            return true;
        }

        /** Keeps the loaded chunk anew; false if the file has no place: it is as it was, and nothing is loaded. */
        private boolean keep(Table table, int chunk) {
            if (isBlank(table)) {
                drop(table, chunk);
                return true;
            }
            int length = filters.pack(table, cells);
            int place = disk.seek(length, table.places[chunk], table.lengths[chunk]);
            if (place == NONE) {
                loaded = null;
                return false;
            }
            drop(table, chunk);
            disk.put(filters.packed, length, place);
            table.places[chunk] = place;
            table.lengths[chunk] = length;
            table.kept++;
            table.keptLength += length;
            return true;
        }

        private void drop(Table table, int chunk) {
            if (table.places[chunk] == NONE) {
                return;
            }
            disk.giveBack(table.places[chunk], table.lengths[chunk]);
            table.kept--;
            table.keptLength -= table.lengths[chunk];
            table.places[chunk] = NONE;
            table.lengths[chunk] = 0;
        }
    }
}
