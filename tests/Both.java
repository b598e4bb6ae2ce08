/** A run of calls that are made of the class and of Model alike: each has to answer as the other does. */
abstract class Both {
    static final int CALLS = 512;

    final int run;
    final ArrayFile real = new ArrayFile();
    final Model model = new Model();
    int calls = 0;
    boolean isWrong = false;
    /** What the latest call answered, or the name of what it threw. */
    String latest = "";
    private long state;
    private final StringBuilder log = new StringBuilder();

    Both(int run) {
        this.run = run;
        state = run * 2654435769L + 12345;
        for (int i = 0; i < 8; i++) {
            below(2);
        }
    }

    /** The next one of a fixed row of numbers, from 0 up to the bound. */
    final int below(int bound) {
        state = state * 6364136223846793005L + 1442695040888963407L;
        return (int) ((state >>> 33) % bound);
    }

    final boolean chance(int percent) {
        return below(100) < percent;
    }

    final int call(String name, Due.Call ofReal, Due.Call ofModel) {
        if (isWrong || calls >= CALLS) {
            return -1;
        }
        calls++;
        String got = Due.answer(ofReal);
        String due = Due.answer(ofModel);
        latest = got;
        log.append(name).append(" = ").append(got).append('\n');
        if (!got.equals(due)) {
            isWrong = true;
            System.out.println("run " + run + ", call " + calls + ": due is " + due + "\n" + log);
        }
        return got.matches("-?[0-9]+") ? Integer.parseInt(got) : -1;
    }

    // ---- the calls, of both

    final void type(long signs) {
        call("type(" + signs + ")", () -> real.type(signs), () -> model.type(signs));
    }

    final void typeText(String text) {
        for (int i = 0; i < text.length(); i += 8) {
            type(Due.signs(text.substring(i, Math.min(text.length(), i + 8))));
        }
    }

    final int find(String path) {
        typeText(path);
        return call("find()", real::find, model::find);
    }

    final int unlink(String path) {
        typeText(path);
        return call("unlink()", real::unlink, model::unlink);
    }

    final int group(String path) {
        typeText(path);
        return call("group()", real::group, model::group);
    }

    final int array(int shape, int kind, int chunk, int filters, int fill) {
        return call("array(" + shape + ", " + kind + ", " + chunk + ", " + filters + ", " + fill + ")",
                () -> real.array(shape, kind, chunk, filters, fill),
                () -> model.array(shape, kind, chunk, filters, fill));
    }

    final int view(int shape, int fill) {
        return call("view(" + shape + ", " + fill + ")", () -> real.view(shape, fill), () -> model.view(shape, fill));
    }

    final int link(int object) {
        return call("link(" + object + ")", () -> real.link(object), () -> model.link(object));
    }

    final void trouble(int level, boolean place) {
        call("trouble(" + level + ", " + place + ")", () -> real.trouble(level, place),
                () -> model.trouble(level, place));
    }

    final int write(int object, int row, int column, int value) {
        return call("write(" + object + ", " + row + ", " + column + ", " + value + ")",
                () -> real.write(object, row, column, value), () -> model.write(object, row, column, value));
    }

    final int read(int object, int row, int column) {
        return call("read(" + object + ", " + row + ", " + column + ")", () -> real.read(object, row, column),
                () -> model.read(object, row, column));
    }

    final int bad(int object, int row, int column) {
        return call("bad(" + object + ", " + row + ", " + column + ")", () -> real.bad(object, row, column),
                () -> model.bad(object, row, column));
    }

    final int plain(int object, int row, int column) {
        return call("plain(" + object + ", " + row + ", " + column + ")", () -> real.plain(object, row, column),
                () -> model.plain(object, row, column));
    }

    final int spoil(int object, int row, int column, int which) {
        return call("spoil(" + object + ", " + row + ", " + column + ", " + which + ")",
                () -> real.spoil(object, row, column, which), () -> model.spoil(object, row, column, which));
    }

    final int resize(int object, int shape) {
        return call("resize(" + object + ", " + shape + ")", () -> real.resize(object, shape),
                () -> model.resize(object, shape));
    }

    final int clear(int which) {
        return call("clear(" + which + ")", () -> real.clear(which), () -> model.clear(which));
    }

    final void slab(int which, int from, int rows, int columns, int steps) {
        call("slab(" + which + ", " + from + ", " + rows + ", " + columns + ", " + steps + ")",
                () -> real.slab(which, from, rows, columns, steps),
                () -> model.slab(which, from, rows, columns, steps));
    }

    final int copy(int from, int to) {
        return call("copy(" + from + ", " + to + ")", () -> real.copy(from, to), () -> model.copy(from, to));
    }

    final int map(int view, int array) {
        return call("map(" + view + ", " + array + ")", () -> real.map(view, array), () -> model.map(view, array));
    }

    final int object(int object, int what) {
        return call("object(" + object + ", " + what + ")", () -> real.object(object, what), () -> model.object(object, what));
    }

    final void fileAt(int place) {
        call("fileAt(" + place + ")", () -> real.fileAt(place), () -> model.fileAt(place));
    }

    final int used(boolean holes) {
        return call("used(" + holes + ")", () -> real.used(holes), () -> model.used(holes));
    }

    /** Looks at all that there is; these calls are not among those of the run. */
    final void compareAll() {
        calls = -100000;
        for (int place = 0; place < 1500; place++) {
            fileAt(place);
        }
        used(true);
        used(false);
        for (int object = 0; object < model.ever; object++) {
            for (int what = 0; what < 5; what++) {
                object(object, what);
            }
            Model.Thing thing = model.things.get(object);
            for (int row = 0; thing != null && row < thing.rows; row++) {
                for (int column = 0; column < thing.columns; column++) {
                    read(object, row, column);
                    bad(object, row, column);
                    plain(object, row, column);
                }
            }
        }
    }
}
