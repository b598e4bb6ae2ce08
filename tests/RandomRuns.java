/** Runs of calls with arguments from a fixed row of numbers: the class has to answer as Model does. */
final class RandomRuns extends Both {
    private static final String[] NAMES = {"a", "b", "c", "dd", "eee", "ffff", "g", "h", "i", "j", "k", "l", "m", "n"};

    private RandomRuns(int run) {
        super(run);
    }

    static void all(int runs) {
        for (int run = 0; run < runs; run++) {
            RandomRuns one = new RandomRuns(run);
            one.go();
            Due.is("random run " + run, 0, one.isWrong ? 1 : 0);
        }
    }

    // ---- arguments

    private int names = 4;

    private String name() {
        return NAMES[below(names)];
    }

    private String path(int most) {
        StringBuilder path = new StringBuilder(name());
        for (int i = below(most); i > 0; i--) {
            path.append('/').append(name());
        }
        return path.toString();
    }

    private String line(String path) {
        if (chance(96)) {
            return path;
        }
        return switch (below(8)) {
            case 0 -> "";
            case 1 -> path + "/";
            case 2 -> "/" + path;
            case 3 -> path.replace("a", "A");
            case 4 -> path + ">";
            case 5 -> path + "abcde";
            case 6 -> path + ">" + path + ">" + path;
            default -> path + "/a/a/a/a/a/a/a/a";
        };
    }

    private int number() {
        return chance(3) ? below(40) - 5 : model.ever < 2 ? 0 : below(model.ever);
    }

    private int numberOf(char sort) {
        for (int i = 0; i < 12; i++) {
            int object = number();
            Model.Thing thing = model.things.get(object);
            if (thing != null && thing.sort == sort) {
                return object;
            }
        }
        return number();
    }

    private int shape(int most) {
        return chance(2) ? below(3000) - 300 : 100 * (1 + below(most)) + 1 + below(most);
    }

    private int value(int kind) {
        return switch (below(8)) {
            case 0 -> 0;
            case 1 -> below(3);
            case 2 -> -1 - below(3);
            case 3 -> below(256) - 128;
            case 4 -> below(65536);
            case 5 -> kind == 2 ? below(2147483647) - (chance(50) ? 2147483647 : 0) : below(100);
            default -> below(4) * 7;
        };
    }

    private int side(int object, boolean isRow) {
        Model.Thing thing = model.things.get(object);
        return thing == null || thing.rows == 0 ? 3 : isRow ? thing.rows : thing.columns;
    }

    // ---- steps

    private void makeSomething() {
        typeText(line(path(3)));
        switch (below(5)) {
            case 0, 1 -> call("group()", real::group, model::group);
            case 2 -> view(shape(chance(50) ? 4 : 24), value(2));
            default -> {
                int kind = chance(2) ? below(6) - 2 : below(3);
                array(shape(chance(60) ? 5 : 24), kind, chance(2) ? below(120) : 10 * (1 + below(8)) + 1 + below(8),
                        chance(2) ? below(40) - 5 : below(16), chance(70) ? 0 : value(kind));
            }
        }
    }

    private void tieOrFind() {
        switch (below(9)) {
            case 0, 1 -> {
                typeText(line(path(3)));
                link(number());
            }
            case 2, 3 -> {
                typeText(line(path(3) + ">" + path(4)));
                link(-1);
            }
            case 4 -> {
                type(chance(80) ? Due.signs(" ~_>/aB0".substring(below(8))) : below(2147483647) * 2147483647L * 4);
                object(number(), 1);
            }
            case 5 -> {
                unlink(line(path(3)));
            }
            default -> {
                find(line(path(5)));
                for (int level = below(7); level >= 0; level--) {
                    trouble(level - (chance(2) ? 1 : 0), chance(50));
                }
            }
        }
    }

    private void cell(int which, int object, int row, int column, int more) {
        switch (which) {
            case 0 -> write(object, row, column, more);
            case 1 -> read(object, row, column);
            case 2 -> bad(object, row, column);
            case 3 -> plain(object, row, column);
            default -> spoil(object, row, column, more);
        }
    }

    private void cells() {
        for (int i = below(6); i >= 0; i--) {
            int object = chance(85) ? numberOf('a') : numberOf('v');
            int row = chance(2) ? below(30) - 3 : below(side(object, true));
            int column = chance(2) ? below(30) - 3 : below(side(object, false));
            Model.Thing thing = model.things.get(object);
            int which = chance(50) ? 0 : below(5);
            boolean isKnown = thing != null;
            int bytes = isKnown && thing.chunkRows > 0 && thing.chunks.containsKey(
                    100 * (row / thing.chunkRows) + column / thing.chunkColumns) ? thing.chunks.get(
                    100 * (row / thing.chunkRows) + column / thing.chunkColumns).bytes.length : 3;
            int more = which == 4 ? chance(4) ? below(600) - 20 : below(bytes) : value(isKnown ? thing.kind : 2);
            cell(which, object, row, column, more);
            if (which == 4 && chance(50)) {
                cell(4, object, row, column, more);
            }
        }
    }

    private void selections() {
        int from = chance(60) ? numberOf('a') : numberOf('v');
        int to = chance(75) ? numberOf('a') : numberOf('v');
        if (chance(70)) {
            clear(chance(2) ? below(5) - 2 : below(2));
            clear(below(2));
        }
        int rows = 1 + below(Math.min(side(from, true), side(to, true)));
        int columns = 1 + below(Math.min(side(from, false), side(to, false)));
        for (int which = 0; which < 2; which++) {
            int object = which == 0 ? from : to;
            int down = below(side(object, true) - rows + 1);
            int right = below(side(object, false) - columns + 1);
            int steps = rows < 4 && chance(40) ? 10 * (1 + below(3)) + 1 + below(3) : 11;
            slab(chance(1) ? 2 - below(4) : which, chance(1) ? below(3000) - 200 : 100 * down + right,
                    chance(1) ? below(30) - 2 : rows, chance(1) ? below(30) - 2 : columns,
                    chance(1) ? below(120) - 10 : steps);
        }
        if (model.things.containsKey(to) && model.things.get(to).sort == 'v' && chance(90)) {
            map(to, from);
        } else {
            copy(from, to);
        }
    }

    private void looks() {
        switch (below(4)) {
            case 0 -> object(number(), chance(5) ? below(9) - 2 : below(5));
            case 1 -> fileAt(chance(5) ? below(1600) - 50 : below(400));
            default -> used(chance(50));
        }
    }

    /** Some arrays and views at the root, so that the calls behind it meet them, and the file becomes full. */
    private void makeArrays() {
        for (int i = 0; i < 4; i++) {
            typeText(NAMES[i]);
            int kind = chance(70) ? 2 : below(3);
            int filters = i % 2 == 0 ? 4 + below(4) + (chance(30) ? 8 : 0) : chance(60) ? 0 : below(16);
            int side = i % 2 == 0 || chance(50) ? 8 : 24;
            array(shape(side), kind, 10 * (1 + below(8)) + 1 + below(8), filters, chance(60) ? 0 : value(kind));
        }
        for (int i = 4; i < 6; i++) {
            typeText(NAMES[i]);
            view(shape(chance(50) ? 8 : 24), value(2));
        }
    }

    /** Like cells in chunks with RUNS, a file that is nearly full, and then extents that break the runs. */
    private void breakRuns() {
        int runs = chance(50) ? 1 : 3;
        int rows = Math.min(side(runs, true), side(5, true));
        int columns = Math.min(side(runs, false), side(5, false));
        for (int which = 0; which < 2; which++) {
            clear(which);
            slab(which, 0, rows, columns, 11);
        }
        copy(5, runs);
        int wide = chance(50) ? 2 : 4;
        for (int i = 0; i < 40 && model.used(false) < 1480; i++) {
            write(wide, below(side(wide, true)), below(side(wide, false)), 1 + below(100));
        }
        for (int i = below(6); i >= 0; i--) {
            resize(runs, 100 * (1 + below(rows)) + 1 + below(columns));
        }
        used(chance(50));
    }

    private void arraysOnly() {
        int kind = below(100);
        if (calls == 0) {
            makeArrays();
        } else if (kind < 3) {
            makeSomething();
        } else if (kind < 5) {
            tieOrFind();
        } else if (kind < 10) {
            breakRuns();
        } else if (kind < 55) {
            cells();
        } else if (kind < 80) {
            selections();
        } else if (kind < (run % 4 == 3 ? 92 : 84)) {
            resize(numberOf('a'), shape(chance(60) ? 8 : 24));
        } else {
            looks();
        }
    }

    private void step() {
        int kind = below(100);
        int mood = run % 4;
        if (mood % 2 == 1) {
            arraysOnly();
            return;
        }
        if (kind < 12 || model.ever < 4) {
            makeSomething();
        } else if (kind < (mood == 0 ? 75 : 25)) {
            tieOrFind();
        } else if (kind < (mood == 2 ? 40 : 70)) {
            cells();
        } else if (kind < 82) {
            selections();
        } else if (kind < 92) {
            resize(numberOf('a'), shape(chance(60) ? 5 : 24));
        } else {
            looks();
        }
    }

    private void go() {
        names = run % 3 == 0 ? 14 : 4;
        while (calls < CALLS && !isWrong) {
            step();
        }
        compareAll();
    }
}
