/** The promises of the document, one method each: ordinary inputs, the edges that it names, wrong inputs. */
final class PromiseTests extends Calls {
    private PromiseTests() {
    }

    // ---- the promises

    static void p1NewObject() {
        ArrayFile x = new ArrayFile();
        Due.is("root is a group", 0, x.object(0, 0));
        Due.is("root has no hard link to it", 0, x.object(0, 1));
        Due.is("root has no links", 0, x.object(0, 2));
        Due.is("root keeps no chunks", 0, x.object(0, 3));
        Due.is("root keeps no bytes", 0, x.object(0, 4));
        Due.ioobe("no object 1", () -> x.object(1, 0));
        Due.is("nothing used", 0, x.used(false));
        Due.is("one hole", 1, x.used(true));
        Due.is("free byte", -1, x.fileAt(0));
        Due.is("last free byte", -1, x.fileAt(1499));
        Due.is("selection 0 empty", 0, x.clear(0));
        Due.is("selection 1 empty", 0, x.clear(1));
        Due.is("no trouble", -1, x.trouble(0, false));
        Due.is("no trouble's place", -1, x.trouble(0, true));
        Due.is("empty line", 0, x.type(0));
    }

    static void p2Type() {
        ArrayFile x = new ArrayFile();
        Due.is("nothing", 0, x.type(0));
        Due.is("one", 1, x.type('a'));
        Due.is("eight more", 9, x.type(Due.signs("bcdefghi")));
        Due.is("lowest and highest sign", 11, x.type(32 | 126 << 8));
        Due.iae("31", () -> x.type(31));
        Due.iae("127", () -> x.type(127));
        Due.iae("128", () -> x.type(128));
        Due.iae("sign 8 is 255", () -> x.type(-1L));
        Due.iae("sign 8 is 128", () -> x.type(Long.MIN_VALUE));
        Due.iae("something behind 0", () -> x.type('a' << 8));
        Due.iae("something behind 0 in between", () -> x.type((long) 'a' << 48 | 'a'));
        Due.iae("good, then bad", () -> x.type('a' | 10 << 8));
        Due.is("exceptions changed nothing", 11, x.type(0));
        for (int i = 0; i < 4; i++) {
            x.type(Due.signs("abcdefgh"));
        }
        Due.is("43 and 5", 48, x.type(Due.signs("vwxyz")));
        Due.is("still 48", 48, x.type(0));
        Due.ise("49", () -> x.type('a'));
        Due.iae("49 and out of range: the first named", () -> x.type(31));
        Due.is("still 48, nothing changed", 48, x.type(0));
        Due.iae("no path", x::find);
        Due.is("a call that reads the line leaves it empty", 0, x.type(0));
        ArrayFile y = new ArrayFile();
        Due.type(y, "abcdefghabcdefghabcdefghabcdefghabcdefghabcdefg");
        Due.ise("47 and 2", () -> y.type(Due.signs("ab")));
        Due.is("47 and 1", 48, y.type('a'));
    }

    static void p3Find() {
        ArrayFile x = new ArrayFile();
        Due.is("group g", 1, group(x, "g"));
        Due.is("group g/h", 2, group(x, "g/h"));
        Due.is("array g/h/abcd", 3, array(x, "g/h/abcd", 101, 0, 11, 0, 0));
        Due.is("find g", 1, find(x, "g"));
        Due.is("find g/h", 2, find(x, "g/h"));
        Due.is("find an array", 3, find(x, "g/h/abcd"));
        Due.is("back to the root", 2, link(x, "g/h/z", 0));
        Due.is("around the ring, 8 names", 2, find(x, "g/h/z/g/h/z/g/h"));
        Due.is("the root itself", 0, find(x, "g/h/z"));
        String[] wrong = {"", "/", "g/", "/g", "g//h", "abcde", "A", "g/H", "g h", "g>h", "g1", "`", "{",
            "g/h/z/g/h/z/g/h/z"};
        for (String line : wrong) {
            Due.iae("no path: " + line, () -> find(x, line));
            Due.is("left empty", 0, x.type(0));
        }
        Due.is("8 names of 4 letters, missing", -1, find(x, "abcd/abcd/abcd/abcd/abcd/abcd/abcd/abcd"));
        Due.is("left empty by NONE", 0, x.type(0));
        Due.is("found", 1, find(x, "g"));
        Due.is("left empty by an answer", 0, x.type(0));
        Due.is("names are unlike by their length", -1, find(x, "gg"));
        soft(x, "s>g/h");
        Due.is("soft link as the last", 2, find(x, "s"));
        Due.is("soft link on the way", 3, find(x, "s/abcd"));
        soft(x, "t>s/abcd");
        Due.is("soft through soft", 3, find(x, "t"));
        Due.is("an array is no group", -1, find(x, "t/a"));
        troubleIs("NO_GROUP without a cause", x, 2, 0);
    }

    static void p4Group() {
        ArrayFile x = new ArrayFile();
        Due.is("first", 1, group(x, "a"));
        Due.is("in it", 2, group(x, "a/b"));
        Due.is("hard links", 1, x.object(2, 1));
        Due.is("links", 1, x.object(1, 2));
        Due.is("missing", -1, group(x, "a/c/d"));
        troubleIs("missing", x, 1, 2);
        Due.ise("name is there", () -> group(x, "a/b"));
        Due.is("left empty", 0, x.type(0));
        Due.iae("no path", () -> group(x, "a/"));
        Due.is("array", 3, array(x, "d", 101, 0, 11, 0, 0));
        Due.is("no group", -1, group(x, "d/e"));
        troubleIs("no group for the last but one", x, 2, 0);
        Due.is("no group further ahead", -1, group(x, "a/b/e/f"));
        troubleIs("missing behind", x, 1, 4);
        soft(x, "s>a/b");
        Due.is("through a soft link", 4, group(x, "s/g"));
        Due.is("is there", 4, find(x, "a/b/g"));
        Due.ise("a soft link is a link of that name", () -> group(x, "s"));
        ArrayFile y = new ArrayFile();
        for (int i = 0; i < 12; i++) {
            group(y, "" + (char) ('a' + i));
        }
        Due.ise("12 links", () -> group(y, "z"));
        Due.ise("12 links, and the name", () -> group(y, "a"));
        Due.is("12 links stay", 12, y.object(0, 2));
        Due.is("no number was used by that", 13, group(y, "a/a"));
        for (int i = 14; i < 24; i++) {
            group(y, "a/" + (char) ('a' + i));
        }
        for (int i = 24; i < 30; i++) {
            Due.is("number " + i, i, group(y, "b/" + (char) ('a' + i - 20)));
        }
        Due.is("trouble ahead", -1, find(y, "zz"));
        Due.ise("30 objects", () -> group(y, "b/a"));
        Due.ise("30 objects come ahead of trouble", () -> group(y, "y/a/a"));
        troubleIs("the older trouble stays", y, 1, 0);
        Due.iae("no path comes ahead of 30 objects", () -> group(y, "y//a"));
        unlink(y, "b/e");
        Due.ise("30 ever, gone ones too", () -> group(y, "b/e"));
        Due.is("links go on", 6, link(y, "b/e", 3));
    }

    static void p5Array() {
        ArrayFile x = new ArrayFile();
        Due.is("smallest", 1, array(x, "a", 101, 0, 11, 0, -128));
        Due.is("largest", 2, array(x, "b", 2424, 2, 88, 15, MIN));
        Due.is("third", 3, array(x, "c", 124, 1, 18, 7, 65535));
        Due.is("sort", 1, x.object(2, 0));
        Due.is("shape", 2424, x.object(2, 2));
        Due.is("shape", 124, x.object(3, 2));
        Due.is("no chunk", 0, x.object(2, 3));
        Due.is("fill", -128, x.read(1, 0, 0));
        Due.is("fill", MIN, x.read(2, 23, 23));
        Due.is("fill", 65535, x.read(3, 0, 23));
        Due.is("fill, plain", MIN, x.plain(2, 23, 0));
        int[] shapes = {0, 1, 100, 125, 2500, 2501, 2525, 10, -101, MAX, MIN, 2400, 24};
        for (int shape : shapes) {
            Due.iae("shape " + shape, () -> array(x, "d", shape, 0, 11, 0, 0));
        }
        int[] chunks = {0, 1, 10, 19, 90, 91, 99, -11, 8, 89, 111, MAX, MIN};
        for (int chunk : chunks) {
            Due.iae("chunk " + chunk, () -> array(x, "d", 101, 0, chunk, 0, 0));
        }
        int[][] rest = {{-1, 0, 0}, {3, 0, 0}, {MAX, 0, 0}, {MIN, 0, 0}, {0, -1, 0}, {0, 16, 0}, {0, MIN, 0},
            {0, 0, 128}, {0, 0, -129}, {1, 0, -1}, {1, 0, 65536}, {0, 0, MAX}};
        for (int[] one : rest) {
            Due.iae("kind, filters, fill " + one[0] + " " + one[1] + " " + one[2],
                    () -> array(x, "d", 101, one[0], 11, one[1], one[2]));
            Due.is("left empty", 0, x.type(0));
        }
        Due.iae("no path", () -> array(x, "d/", 101, 0, 11, 0, 0));
        Due.ise("name is there", () -> array(x, "a", 101, 0, 11, 0, 0));
        Due.iae("out of range comes first", () -> array(x, "a", 101, 0, 11, 16, 0));
        Due.is("trouble", -1, array(x, "q/a", 101, 0, 11, 0, 0));
        troubleIs("missing", x, 1, 0);
        Due.is("trouble", -1, array(x, "c/a", 101, 0, 11, 0, 0));
        troubleIs("no group", x, 2, 0);
        Due.is("no number went", 4, array(x, "d", 101, 0, 11, 0, 127));
        for (int i = 5; i < 12; i++) {
            array(x, "" + (char) ('a' + i), 101, 0, 11, 0, 0);
        }
        Due.is("the twelfth", 12, array(x, "z", 101, 0, 11, 0, 0));
        Due.ise("12 links", () -> array(x, "y", 101, 0, 11, 0, 0));
    }

    static void p6View() {
        ArrayFile x = new ArrayFile();
        Due.is("first", 1, view(x, "v", 101, MIN));
        Due.is("second", 2, view(x, "w", 2424, MAX));
        Due.is("sort", 2, x.object(2, 0));
        Due.is("shape", 2424, x.object(2, 2));
        Due.is("fill", MIN, x.read(1, 0, 0));
        Due.is("fill", MAX, x.read(2, 23, 23));
        for (int shape : new int[] {0, 100, 1, 125, 2501, 2500, -101, MIN, MAX}) {
            Due.iae("shape " + shape, () -> view(x, "u", shape, 0));
            Due.is("left empty", 0, x.type(0));
        }
        Due.iae("no path", () -> view(x, "U", 101, 0));
        Due.ise("name is there", () -> view(x, "v", 101, 0));
        Due.is("no group", -1, view(x, "v/a", 101, 0));
        troubleIs("no group", x, 2, 0);
        Due.is("missing", -1, view(x, "a/a", 101, 0));
        troubleIs("missing", x, 1, 0);
        Due.is("no number went", 3, view(x, "u", 101, 0));
    }

    static void p7Link() {
        ArrayFile x = new ArrayFile();
        group(x, "g");
        array(x, "a", 101, 0, 11, 0, 0);
        Due.is("hard", 1, link(x, "g/b", 2));
        Due.is("hard links", 2, x.object(2, 1));
        Due.is("soft", 2, soft(x, "g/s>a"));
        Due.is("a soft link counts none", 2, x.object(2, 1));
        Due.is("soft to nothing", 3, soft(x, "g/t>no/such/path"));
        Due.is("hard to the root", 4, link(x, "g/r", 0));
        Due.is("the root has one", 1, x.object(0, 1));
        Due.is("by it", 2, find(x, "g/r/a"));
        x.type(Due.signs("g/x"));
        Due.ioobe("no such object", () -> x.link(3));
        Due.ioobe("below NONE", () -> x.link(-2));
        Due.ioobe("30", () -> x.link(30));
        Due.ioobe("largest", () -> x.link(MAX));
        Due.is("the line stays", 3, x.type(0));
        Due.is("and is used", 5, x.link(1));
        Due.is("a ring of one", 2, x.object(1, 1));
        Due.iae("a hard link has one path", () -> link(x, "y>a", 1));
        Due.is("left empty", 0, x.type(0));
        String[] wrong = {"", "y", "y>", ">a", "y>a>b", "y>>a", "y>/a", "Y>a", "y/>a", "y>abcde", "y >a",
            "y>a/a/a/a/a/a/a/a/a"};
        for (String line : wrong) {
            Due.iae("no soft link: " + line, () -> soft(x, line));
            Due.is("left empty", 0, x.type(0));
        }
        Due.ise("name is there", () -> link(x, "g/b", 2));
        Due.ise("name is there, soft", () -> soft(x, "g/b>a"));
        Due.is("missing", -1, link(x, "q/b", 2));
        troubleIs("missing", x, 1, 0);
        Due.is("no group, soft", -1, soft(x, "g/b/b>a"));
        troubleIs("no group", x, 2, 2);
        Due.is("counts did not change", 2, x.object(2, 1));
        for (int i = 0; i < 7; i++) {
            Due.is("soft ones to 12", 6 + i, soft(x, "g/z" + (char) ('a' + i) + ">a"));
        }
        Due.ise("12", () -> soft(x, "g/m>a"));
        Due.ise("12", () -> link(x, "g/m", 2));
        Due.is("longest soft path", 3, soft(x, "m>abcd/abcd/abcd/abcd/abcd/abcd/abcd/abcd"));
        unlink(x, "g/b");
        unlink(x, "a");
        x.type('w');
        Due.ioobe("a gone one", () -> x.link(2));
        Due.is("the line stays", 1, x.type(0));
    }

    static void p8Unlink() {
        ArrayFile x = new ArrayFile();
        group(x, "g");
        group(x, "g/h");
        array(x, "g/h/a", 101, 0, 11, 0, 0);
        x.write(3, 0, 0, 5);
        soft(x, "s>g/h");
        link(x, "b", 3);
        Due.is("a soft link itself", 0, unlink(x, "s"));
        Due.is("what it led to is there", 2, find(x, "g/h"));
        soft(x, "s>no/such");
        Due.is("what a soft link leads to does not matter", 0, unlink(x, "s"));
        Due.is("missing in the root", -1, unlink(x, "s"));
        troubleIs("missing", x, 1, 0);
        Due.is("missing in a group", -1, unlink(x, "g/h/zz"));
        troubleIs("missing, last name", x, 1, 4);
        Due.is("missing on the way", -1, unlink(x, "g/x/zz"));
        troubleIs("missing on the way", x, 1, 2);
        Due.is("no group", -1, unlink(x, "b/zz"));
        troubleIs("no group", x, 2, 0);
        Due.iae("no path", () -> unlink(x, "g/"));
        Due.is("left empty", 0, x.type(0));
        Due.is("two groups gone, the array is linked yet", 2, unlink(x, "g"));
        Due.is("one link to the array", 1, x.object(3, 1));
        Due.ioobe("gone", () -> x.object(1, 0));
        Due.ioobe("gone", () -> x.object(2, 0));
        Due.is("its byte", 1, x.used(false));
        Due.is("the array gone", 1, unlink(x, "b"));
        Due.is("its byte is free", 0, x.used(false));
        Due.ioobe("gone", () -> x.read(3, 0, 0));
        Due.is("numbers go on", 4, group(x, "g"));
        Due.is("ring", 5, group(x, "g/h"));
        Due.is("ring", 1, link(x, "g/h/g", 4));
        Due.is("a ring stays", 0, unlink(x, "g"));
        Due.is("one link to it", 1, x.object(4, 1));
        Due.is("linked again", 1, link(x, "r", 5));
        Due.is("found again", 4, find(x, "r/g"));
        Due.is("the ring opened: g stays by nothing", 1, unlink(x, "r/g"));
        Due.is("root is never gone", 1, link(x, "r/o", 0));
        Due.is("root stays", 0, unlink(x, "r/o"));
        Due.is("root has no hard link", 0, x.object(0, 1));
        ArrayFile y = new ArrayFile();
        group(y, "g");
        link(y, "g/me", 1);
        Due.is("a group that leads to itself stays", 0, unlink(y, "g"));
        group(y, "h");
        link(y, "h/x", 1);
        Due.is("others stay by their rings", 1, unlink(y, "h"));
        Due.is("its own link", 1, y.object(1, 1));
    }

    static void p9Trouble() {
        ArrayFile x = new ArrayFile();
        Due.ioobe("below 0", () -> x.trouble(-1, false));
        Due.ioobe("lowest", () -> x.trouble(MIN, true));
        troubleIs("none yet", x);
        group(x, "gg");
        array(x, "gg/a", 101, 0, 11, 0, 0);
        find(x, "gg/b/c");
        troubleIs("missing", x, 1, 3);
        find(x, "gg/a");
        troubleIs("stays as the latest", x, 1, 3);
        soft(x, "one>gg/no");
        soft(x, "two>gg/a/b");
        soft(x, "tri>one");
        Due.is("by a soft link", -1, find(x, "one"));
        troubleIs("cause", x, 1, 0, 1, 3);
        Due.is("by two soft links", -1, find(x, "tri/a"));
        troubleIs("two causes", x, 1, 0, 1, 0, 1, 3);
        Due.is("no group is the cause", -1, find(x, "two"));
        troubleIs("same kind", x, 2, 0, 2, 3);
        soft(x, "gg/s>gg/a");
        Due.is("the soft link is no group", -1, find(x, "gg/s/x"));
        troubleIs("no cause", x, 2, 3);
        Due.ise("told by no NONE", () -> group(x, "gg"));
        Due.iae("told by no NONE", () -> find(x, ""));
        troubleIs("stays", x, 2, 3);
        soft(x, "e>e");
        Due.is("a ring of soft links", -1, find(x, "e"));
        troubleIs("deep", x, 3, 0, 3, 0, 3, 0, 3, 0, 3, 0);
        soft(x, "da>gg");
        soft(x, "db>da");
        soft(x, "dc>db");
        soft(x, "dd>dc");
        Due.is("four are not deep", 1, find(x, "dd"));
        Due.is("four, then a name", 2, find(x, "dd/a"));
        soft(x, "gg/de>dd");
        Due.is("five are deep", -1, find(x, "gg/de"));
        troubleIs("fifth", x, 3, 3, 3, 0, 3, 0, 3, 0, 3, 0);
        Due.is("the array is gone", 1, unlink(x, "gg/a"));
        soft(x, "gg/p>gg");
        Due.is("many, one behind another", 1, find(x, "gg/p/p/p/p/p/p/p"));
        Due.is("by group", -1, group(x, "one/a"));
        troubleIs("by group", x, 1, 0, 1, 3);
        Due.is("by unlink, missing within", -1, unlink(x, "dd/none"));
        troubleIs("by unlink", x, 1, 3);
    }

    static void p10Write() {
        ArrayFile x = withArray(304, 1, 22, 0, 9);
        Due.is("before: the fill", 9, x.write(1, 0, 0, 65535));
        Due.is("before: the last", 65535, x.write(1, 0, 0, 258));
        Due.is("no filter: 8 bytes", 8, x.used(false));
        bytesAre("row by row, the lowest byte first", x, 0, 2, 1, 9, 0, 9, 0, 9, 0, -1);
        Due.ioobe("object", () -> x.write(2, 0, 0, 0));
        Due.ioobe("object", () -> x.write(-1, 0, 0, 0));
        Due.ioobe("a group", () -> x.write(0, 0, 0, 0));
        Due.ioobe("row", () -> x.write(1, 3, 0, 0));
        Due.ioobe("row", () -> x.write(1, -1, 0, 0));
        Due.ioobe("column", () -> x.write(1, 0, 4, 0));
        Due.ioobe("column", () -> x.write(1, 0, -1, 0));
        Due.ioobe("column, ahead of value", () -> x.write(1, 0, MAX, -1));
        Due.iae("value", () -> x.write(1, 0, 0, -1));
        Due.iae("value", () -> x.write(1, 0, 0, 65536));
        view(x, "v", 101, 0);
        Due.ioobe("a view", () -> x.write(2, 0, 0, 0));
        Due.is("fill again", 258, x.write(1, 0, 0, 9));
        Due.is("not kept", 0, x.used(false));
        Due.is("fill to fill", 9, x.write(1, 0, 0, 9));
        ArrayFile y = withArray(202, 0, 22, 0, -1);
        Due.is("lowest", -1, y.write(1, 0, 0, -128));
        Due.is("highest", -1, y.write(1, 1, 1, 127));
        Due.iae("value", () -> y.write(1, 0, 0, 128));
        Due.iae("value", () -> y.write(1, 0, 0, -129));
        bytesAre("bytes", y, 0, 128, 255, 255, 127, -1);
        filters();
        placesOfChunks();
        fullFile();
        writeToSpoiled();
    }

    private static void filters() {
        ArrayFile s = withArray(102, 2, 12, 1, 0);
        s.write(1, 0, 0, 0x04030201);
        s.write(1, 0, 1, 0x14131211);
        bytesAre("SHUFFLE", s, 0, 1, 0x11, 2, 0x12, 3, 0x13, 4, 0x14, -1);
        ArrayFile d = withArray(104, 0, 14, 2, 0);
        d.write(1, 0, 0, 5);
        d.write(1, 0, 1, 3);
        d.write(1, 0, 3, -128);
        bytesAre("DIFFERENCES", d, 0, 5, 254, 253, 128, -1);
        ArrayFile r = withArray(104, 0, 14, 4, 0);
        r.write(1, 0, 3, 7);
        bytesAre("RUNS", r, 0, 3, 0, 1, 7, -1);
        ArrayFile c = withArray(104, 0, 14, 8, 0);
        c.write(1, 0, 0, -1);
        c.write(1, 0, 1, -2);
        bytesAre("SUM", c, 0, 255, 254, 0, 0, 253, -1);
        ArrayFile long256 = withArray(808, 2, 88, 4, 0);
        long256.write(1, 7, 7, -16777216);
        bytesAre("255 and one more", long256, 0, 255, 0, 1, 255, -1);
        ArrayFile all = withArray(808, 2, 88, 7, 1);
        all.write(1, 0, 0, 0);
        all.spoil(1, 0, 0, 0);
        all.spoil(1, 0, 0, 0);
        Due.is("read back from 256 bytes", 1, all.read(1, 7, 7));
        Due.is("read back from 256 bytes", 0, all.read(1, 0, 0));
        bytesAre("the longest run and the rest", all, 0, 1, 0, 1, 1, 62, 0, 1, 255, 191, 0, -1);
        ArrayFile like = withArray(808, 2, 88, 4, 1);
        select(like, 0, 0, 8, 8);
        select(like, 1, 0, 8, 8);
        view(like, "v", 808, -1);
        Due.is("all -1", 64, like.copy(2, 1));
        bytesAre("256 like bytes", like, 0, 255, 255, 1, 255, -1);
        Due.is("read back", -1, like.read(1, 7, 7));
        ArrayFile every = withArray(202, 1, 22, 15, 0);
        every.write(1, 0, 0, 300);
        every.write(1, 1, 1, 300);
        bytesAre("all filters", every, 0, 1, 44, 1, 0xD4, 1, 0, 1, 44, 1, 0xD5, 1, 255, 1, 0, 1, 1,
                (8 + 44 + 0xD4 + 44 + 0xD5 + 255 + 1) & 255, -1);
    }

    private static void placesOfChunks() {
        ArrayFile x = withArray(104, 0, 11, 4, 0);
        x.write(1, 0, 0, 1);
        x.write(1, 0, 1, 2);
        x.write(1, 0, 2, 3);
        Due.is("six bytes", 6, x.used(false));
        x.write(1, 0, 1, 0);
        Due.is("a hole", 2, x.used(true));
        x.write(1, 0, 2, 4);
        bytesAre("given back first, then the lowest place", x, 0, 1, 1, 1, 4, -1);
        ArrayFile y = withArray(103, 0, 13, 4, 0);
        array(y, "b", 102, 0, 11, 0, 0);
        y.write(1, 0, 0, 1);
        y.write(2, 0, 0, 77);
        bytesAre("behind", y, 0, 1, 1, 2, 0, 77, -1);
        y.write(1, 0, 1, 2);
        bytesAre("no place for six at 0", y, 0, -1, -1, -1, -1, 77, 1, 1, 1, 2, 1, 0, -1);
        y.write(2, 0, 1, 78);
        bytesAre("the lowest place", y, 0, 78, -1, -1, -1, 77, 1);
        y.write(1, 0, 1, 1);
        bytesAre("kept anew where there is place now", y, 0, 78, -1, -1, -1, 77, 2, 1, 1, 0, -1);
        y.write(2, 0, 0, 0);
        y.write(1, 0, 1, 1);
        bytesAre("kept anew, though nothing changed", y, 0, 78, 2, 1, 1, 0, -1);
    }

    private static void fullFile() {
        ArrayFile x = withArray(2424, 2, 88, 0, 0);
        for (int i = 0; i < 5; i++) {
            x.write(1, i / 3 * 8, i % 3 * 8, 1);
        }
        Due.is("five of 256", 1280, x.used(false));
        Due.ise("no place for the sixth", () -> x.write(1, 8, 16, 1));
        Due.is("nothing changed", 0, x.read(1, 8, 16));
        Due.is("nothing changed, plain", 0, x.plain(1, 8, 16));
        Due.is("fill needs no place", 0, x.write(1, 8, 16, 0));
        Due.is("one is kept anew at its own place", 1, x.write(1, 0, 0, 2));
        array(x, "b", 2401, 0, 81, 4, 0);
        array(x, "c", 824, 0, 88, 0, 0);
        x.write(3, 0, 0, 1);
        x.write(3, 0, 8, 1);
        x.write(3, 0, 16, 1);
        Due.is("1472 used", 1472, x.used(false));
        x.write(2, 0, 0, 1);
        x.write(2, 2, 0, 1);
        x.write(2, 4, 0, 1);
        x.write(2, 6, 0, 1);
        Due.is("16 more", 1488, x.used(false));
        x.write(2, 8, 0, 1);
        x.write(2, 16, 0, 1);
        x.write(2, 17, 0, 2);
        Due.is("to 1498", 1498, x.used(false));
        int before = x.fileAt(1488);
        Due.ise("a kept one that becomes longer", () -> x.write(2, 19, 0, 3));
        Due.is("is as it was", before, x.fileAt(1488));
        Due.is("is as it was", 2, x.read(2, 17, 0));
        Due.is("is as it was", 0, x.read(2, 19, 0));
        Due.is("is as it was", 1498, x.used(false));
        Due.is("one hole", 1, x.used(true));
    }

    private static void writeToSpoiled() {
        ArrayFile x = withArray(202, 0, 22, 8, 0);
        x.write(1, 0, 0, 5);
        x.spoil(1, 0, 0, 1);
        Due.ise("bad", () -> x.write(1, 1, 1, 2));
        Due.iae("value ahead of bad", () -> x.write(1, 1, 1, 200));
        Due.is("plain as it was", 0, x.plain(1, 1, 1));
        ArrayFile y = withArray(202, 0, 22, 0, 0);
        y.write(1, 0, 0, 5);
        y.spoil(1, 0, 0, 0);
        y.spoil(1, 0, 0, 1);
        Due.is("as read", -6, y.write(1, 0, 0, 1));
        Due.is("the other is kept as read", -1, y.read(1, 0, 1));
        Due.is("but plain", 0, y.plain(1, 0, 1));
        ArrayFile z = withArray(101, 0, 12, 0, 0);
        z.write(1, 0, 0, 5);
        z.spoil(1, 0, 0, 1);
        bytesAre("beyond, spoiled", z, 0, 5, 255, -1);
        z.write(1, 0, 0, 6);
        bytesAre("cells beyond are the fill value then", z, 0, 6, 0, -1);
        z.spoil(1, 0, 0, 1);
        z.write(1, 0, 0, 0);
        Due.is("all fill: not kept", 0, z.used(false));
    }

    static void p11Read() {
        ArrayFile x = withArray(203, 2, 12, 15, -5);
        x.write(1, 1, 2, MIN);
        x.write(1, 1, 1, MAX);
        Due.is("read", MIN, x.read(1, 1, 2));
        Due.is("read", MAX, x.read(1, 1, 1));
        Due.is("fill", -5, x.read(1, 0, 0));
        Due.is("fill in a kept chunk", -5, x.read(1, 1, 0));
        Due.ioobe("group", () -> x.read(0, 0, 0));
        Due.ioobe("none", () -> x.read(2, 0, 0));
        Due.ioobe("none", () -> x.read(-1, 0, 0));
        Due.ioobe("row", () -> x.read(1, 2, 0));
        Due.ioobe("row", () -> x.read(1, -1, 0));
        Due.ioobe("column", () -> x.read(1, 0, 3));
        Due.ioobe("column", () -> x.read(1, 0, -1));
        x.spoil(1, 1, 2, 0);
        Due.ise("bad", () -> x.read(1, 1, 2));
        Due.is("another chunk", MAX, x.read(1, 1, 1));
        view(x, "v", 102, 77);
        select(x, 0, 101, 1, 2);
        select(x, 1, 0, 1, 2);
        x.map(2, 1);
        Due.is("view", MAX, x.read(2, 0, 0));
        Due.ise("view of bad", () -> x.read(2, 0, 1));
        Due.ioobe("view, row", () -> x.read(2, 1, 0));
        Due.ioobe("view, column", () -> x.read(2, 0, 2));
    }

    static void p12Bad() {
        ArrayFile x = withArray(102, 0, 12, 12, 0);
        x.write(1, 0, 0, 5);
        bytesAre("runs and sum", x, 0, 1, 5, 1, 0, 7, -1);
        Due.is("good", 0, x.bad(1, 0, 0));
        x.spoil(1, 0, 0, 0);
        Due.is("sum comes first", 8, x.bad(1, 0, 0));
        Due.is("all its cells", 8, x.bad(1, 0, 1));
        x.spoil(1, 0, 0, 0);
        Due.is("good again", 0, x.bad(1, 0, 0));
        x.spoil(1, 0, 0, 4);
        Due.is("the sum itself", 8, x.bad(1, 0, 0));
        x.spoil(1, 0, 0, 4);
        x.spoil(1, 0, 0, 0);
        x.spoil(1, 0, 0, 2);
        Due.is("1 + 1 turned are 254 + 254: the sum tells", 8, x.bad(1, 0, 0));
        ArrayFile y = withArray(102, 0, 12, 4, 0);
        y.write(1, 0, 0, 5);
        y.spoil(1, 0, 0, 0);
        Due.is("too many", 4, y.bad(1, 0, 1));
        Due.ise("not read", () -> y.read(1, 0, 1));
        y.spoil(1, 0, 0, 0);
        y.spoil(1, 0, 0, 1);
        Due.is("a byte of a run is no reason", 0, y.bad(1, 0, 0));
        Due.is("but read so", -6, y.read(1, 0, 0));
        ArrayFile none = withArray(808, 2, 88, 4, 0);
        none.write(1, 7, 7, -16777216);
        none.spoil(1, 0, 0, 0);
        Due.is("a run of none", 4, none.bad(1, 0, 0));
        ArrayFile plus = withArray(101, 0, 11, 8, 0);
        plus.write(1, 0, 0, 5);
        plus.spoil(1, 0, 0, 0);
        plus.spoil(1, 0, 0, 1);
        Due.is("both turned agree again", 0, plus.bad(1, 0, 0));
        Due.is("and are read", -6, plus.read(1, 0, 0));
        none.spoil(1, 0, 0, 0);
        none.spoil(1, 0, 0, 2);
        Due.is("254 too many", 4, none.bad(1, 0, 0));
        Due.ioobe("group", () -> x.bad(0, 0, 0));
        Due.ioobe("none", () -> x.bad(2, 0, 0));
        Due.ioobe("cell", () -> x.bad(1, 1, 0));
        Due.ioobe("cell", () -> x.bad(1, 0, -1));
        view(y, "v", 101, 3);
        Due.is("view, no map", 0, y.bad(2, 0, 0));
        select(y, 0, 1, 1, 1);
        select(y, 1, 0, 1, 1);
        y.map(2, 1);
        Due.is("view", 0, y.bad(2, 0, 0));
        y.spoil(1, 0, 0, 2);
        Due.is("view of bad", 4, y.bad(2, 0, 0));
        unlink(y, "a");
        Due.is("gone: not bad", 0, y.bad(2, 0, 0));
        Due.is("gone: fill", 3, y.read(2, 0, 0));
    }

    static void p13Plain() {
        ArrayFile x = withArray(203, 0, 22, 0, 4);
        Due.is("fill", 4, x.plain(1, 1, 2));
        x.write(1, 1, 2, 6);
        x.spoil(1, 1, 2, 2);
        Due.is("spoiled", -7, x.read(1, 1, 2));
        Due.is("plain", 6, x.plain(1, 1, 2));
        x.write(1, 0, 2, 1);
        Due.is("kept anew with what was read", -7, x.read(1, 1, 2));
        Due.is("plain is as written", 6, x.plain(1, 1, 2));
        x.resize(1, 102);
        x.resize(1, 203);
        Due.is("gone cells come back as fill", 4, x.plain(1, 1, 2));
        Due.ioobe("group", () -> x.plain(0, 0, 0));
        Due.ioobe("none", () -> x.plain(5, 0, 0));
        Due.ioobe("cell", () -> x.plain(1, 2, 0));
        Due.ioobe("cell", () -> x.plain(1, 0, 3));
        Due.ioobe("cell", () -> x.plain(1, -1, 0));
        view(x, "v", 101, 0);
        Due.ioobe("view", () -> x.plain(2, 0, 0));
    }

    static void p14Spoil() {
        ArrayFile x = withArray(203, 1, 12, 0, 0);
        Due.ioobe("not kept", () -> x.spoil(1, 0, 0, 0));
        x.write(1, 0, 0, 1);
        x.write(1, 1, 2, 0x1234);
        Due.is("first", 0, x.spoil(1, 0, 1, 0));
        Due.is("turned", 254, x.fileAt(0));
        Due.is("second chunk", 5, x.spoil(1, 1, 2, 1));
        Due.is("turned", 0xED, x.fileAt(5));
        Due.is("read", 0xED34, x.read(1, 1, 2));
        Due.is("turned back", 5, x.spoil(1, 1, 2, 1));
        Due.is("turned back", 0x12, x.fileAt(5));
        Due.is("last", 7, x.spoil(1, 1, 2, 3));
        Due.ioobe("which 4", () -> x.spoil(1, 1, 2, 4));
        Due.ioobe("which -1", () -> x.spoil(1, 1, 2, -1));
        Due.ioobe("which", () -> x.spoil(1, 1, 2, MAX));
        Due.ioobe("which", () -> x.spoil(1, 1, 2, MIN));
        Due.ioobe("another chunk", () -> x.spoil(1, 0, 2, 0));
        Due.ioobe("group", () -> x.spoil(0, 0, 0, 0));
        Due.ioobe("none", () -> x.spoil(2, 0, 0, 0));
        Due.ioobe("cell", () -> x.spoil(1, 2, 0, 0));
        Due.ioobe("cell", () -> x.spoil(1, 0, 3, 0));
        view(x, "v", 101, 0);
        Due.ioobe("view", () -> x.spoil(2, 0, 0, 0));
        Due.is("kept, though all is fill as it is read", 4, spoiledToFill().used(false));
    }

    private static ArrayFile spoiledToFill() {
        ArrayFile x = withArray(101, 2, 11, 0, 255);
        x.write(1, 0, 0, 0);
        x.spoil(1, 0, 0, 0);
        Due.is("reads as fill", 255, x.read(1, 0, 0));
        Due.is("is kept", 1, x.object(1, 3));
        return x;
    }

    static void p15Resize() {
        ArrayFile x = withArray(404, 0, 22, 0, 1);
        for (int i = 0; i < 16; i++) {
            x.write(1, i / 4, i % 4, 10 + i);
        }
        Due.is("four chunks", 16, x.used(false));
        Due.is("same extents", 0, x.resize(1, 404));
        Due.is("one chunk beyond, two are partly", 8, x.resize(1, 302));
        Due.is("extents", 302, x.object(1, 2));
        Due.is("two chunks", 2, x.object(1, 3));
        bytesAre("the partly beyond one is kept anew", x, 0, 10, 11, 14, 15, 18, 19, 1, 1, -1, -1);
        Due.ioobe("beyond", () -> x.read(1, 3, 0));
        Due.is("back", 0, x.resize(1, 2424));
        Due.is("there yet", 19, x.read(1, 2, 1));
        Due.is("gone", 1, x.read(1, 3, 1));
        Due.is("gone", 1, x.read(1, 0, 2));
        Due.is("gone", 1, x.plain(1, 0, 2));
        Due.is("there yet", 19, x.plain(1, 2, 1));
        for (int shape : new int[] {0, 1, 100, 125, 2501, -101, MAX, MIN}) {
            Due.iae("shape " + shape, () -> x.resize(1, shape));
        }
        Due.ioobe("group", () -> x.resize(0, 101));
        Due.ioobe("none, ahead of shape", () -> x.resize(7, 0));
        view(x, "v", 101, 0);
        Due.ioobe("view", () -> x.resize(2, 101));
        resizeToMore();
        resizeOfSpoiled();
        resizeInOrder();
        resizeWithoutPlace();
        resizeGivenUp();
    }

    /** All cells 7: two bytes by RUNS, but four when one cell is beyond. */
    private static ArrayFile likeCells() {
        ArrayFile x = withArray(202, 0, 22, 4, 0);
        view(x, "v", 202, 7);
        select(x, 0, 0, 2, 2);
        select(x, 1, 0, 2, 2);
        Due.is("all 7", 4, x.copy(2, 1));
        bytesAre("one run", x, 0, 4, 7, -1);
        return x;
    }

    private static void resizeToMore() {
        ArrayFile x = likeCells();
        Due.is("more bytes", -6, x.resize(1, 201));
        Due.is("eight", 8, x.used(false));
        bytesAre("two columns", x, 0, 1, 7, 1, 0, 1, 7, 1, 0, -1);
        Due.is("all fill is not kept", 0, fillOnly().used(false));
    }

    private static ArrayFile fillOnly() {
        ArrayFile x = withArray(102, 0, 12, 0, 0);
        x.write(1, 0, 1, 5);
        Due.is("two less", 2, x.resize(1, 101));
        Due.is("no chunk", 0, x.object(1, 3));
        return x;
    }

    private static void resizeOfSpoiled() {
        ArrayFile w = withArray(104, 0, 12, 0, 0);
        w.write(1, 0, 3, 5);
        w.resize(1, 102);
        w.resize(1, 104);
        Due.is("the chunk that was read last is gone, too", 0, w.read(1, 0, 3));
        ArrayFile x = withArray(102, 0, 12, 8, 0);
        x.write(1, 0, 0, 3);
        x.write(1, 0, 1, 5);
        x.spoil(1, 0, 0, 0);
        Due.is("a bad one stays", 0, x.resize(1, 101));
        bytesAre("as it was", x, 0, 252, 5, 8, -1);
        x.resize(1, 102);
        Due.is("plain: gone", 0, x.plain(1, 0, 1));
        x.spoil(1, 0, 0, 0);
        Due.is("as it is read", 5, x.read(1, 0, 1));
        Due.is("plain", 0, x.plain(1, 0, 1));
        x.spoil(1, 0, 0, 0);
        ArrayFile y = withArray(101, 0, 13, 0, 0);
        y.write(1, 0, 0, 3);
        y.spoil(1, 0, 0, 1);
        y.spoil(1, 0, 0, 2);
        Due.is("to more", 0, y.resize(1, 102));
        bytesAre("as it is read, but beyond", y, 0, 3, 255, 0, -1);
        Due.is("as it is read", -1, y.read(1, 0, 1));
        Due.is("plain", 0, y.plain(1, 0, 1));
        ArrayFile z = withArray(104, 0, 12, 8, 0);
        z.write(1, 0, 3, 3);
        z.spoil(1, 0, 3, 0);
        Due.is("a bad one that is beyond goes", 3, z.resize(1, 102));
    }

    private static void resizeInOrder() {
        ArrayFile x = withArray(404, 0, 22, 0, 0);
        x.write(1, 0, 3, 9);
        x.write(1, 2, 0, 1);
        x.write(1, 3, 0, 2);
        x.write(1, 0, 0, 5);
        bytesAre("three chunks", x, 0, 0, 9, 0, 0, 1, 0, 2, 0, 5, 0, 0, 0, -1);
        Due.is("one is fill then", 4, x.resize(1, 303));
        bytesAre("by rows and then by columns", x, 0, 1, 0, 0, 0, -1, -1, -1, -1, 5, 0, 0, 0, -1);
        ArrayFile y = withArray(105, 0, 12, 0, 0);
        y.write(1, 0, 4, 1);
        y.write(1, 0, 2, 2);
        y.write(1, 0, 3, 3);
        y.write(1, 0, 0, 4);
        bytesAre("three chunks", y, 0, 1, 0, 2, 3, 4, 0, -1);
        Due.is("what is beyond goes first", 2, y.resize(1, 103));
        bytesAre("then the place is free", y, 0, 2, 0, -1, -1, 4, 0, -1);
    }

    private static void resizeWithoutPlace() {
        ArrayFile x = likeCells();
        array(x, "b", 2424, 2, 88, 0, 0);
        array(x, "c", 824, 0, 88, 0, 0);
        array(x, "d", 305, 0, 35, 0, 0);
        array(x, "e", 808, 0, 11, 0, 0);
        for (int i = 0; i < 5; i++) {
            x.write(3, i / 3 * 8, i % 3 * 8, 1);
        }
        for (int i = 0; i < 3; i++) {
            x.write(4, 0, 8 * i, 1);
        }
        x.write(5, 0, 0, 1);
        for (int i = 0; i < 10; i++) {
            x.write(6, i / 8, i % 8, 1);
        }
        Due.is("almost full", 2 + 1280 + 192 + 15 + 10, x.used(false));
        Due.ise("no place", () -> x.resize(1, 201));
        Due.is("extents are as they were", 202, x.object(1, 2));
        Due.is("cells are as they were", 7, x.read(1, 1, 1));
        Due.is("plain is as it was", 7, x.plain(1, 1, 1));
        Due.is("chunks are as they were", 2, x.object(1, 4));
        bytesAre("file is as it was", x, 0, 4, 7, 1);
        Due.is("used is as it was", 1499, x.used(false));
        x.write(1, 0, 0, 7);
        Due.is("it can be written", 7, x.read(1, 0, 0));
    }

    /** The chunk beyond goes, the first one partly beyond finds another place, the second one finds none. */
    private static void resizeGivenUp() {
        ArrayFile x = withArray(604, 0, 22, 4, 0);
        array(x, "b", 2424, 2, 88, 0, 0);
        array(x, "c", 824, 0, 88, 0, 0);
        array(x, "d", 808, 0, 11, 0, 0);
        view(x, "v", 604, 7);
        select(x, 0, 0, 6, 2);
        select(x, 1, 0, 6, 2);
        x.copy(5, 1);
        x.write(1, 0, 3, 7);
        x.write(1, 0, 2, 7);
        bytesAre("four chunks", x, 0, 4, 7, 4, 7, 4, 7, 2, 7, 2, 0, -1);
        for (int i = 0; i < 5; i++) {
            x.write(2, i / 3 * 8, i % 3 * 8, 1);
        }
        for (int i = 0; i < 3; i++) {
            x.write(3, 0, 8 * i, 1);
        }
        for (int i = 0; i < 10; i++) {
            x.write(4, i / 8, i % 8, 3);
        }
        Due.is("eight free", 1492, x.used(false));
        Due.ise("no place", () -> x.resize(1, 501));
        bytesAre("chunks are where they were", x, 0, 4, 7, 4, 7, 4, 7, 2, 7, 2, 0, 1, 0, 0, 0);
        bytesAre("what was free is free", x, 1491, 3, -1, -1, -1, -1, -1, -1, -1, -1);
        Due.is("used", 1492, x.used(false));
        Due.is("one hole", 1, x.used(true));
        Due.is("extents", 604, x.object(1, 2));
        Due.is("chunks", 4, x.object(1, 3));
        Due.is("bytes", 10, x.object(1, 4));
        Due.is("the one beyond", 7, x.read(1, 0, 3));
        Due.is("the first", 7, x.read(1, 1, 1));
        Due.is("the second", 7, x.read(1, 3, 1));
        Due.is("the last row", 7, x.plain(1, 5, 1));
        Due.is("first byte of the first", 0, x.spoil(1, 0, 0, 0));
        Due.is("last byte of the one beyond", 9, x.spoil(1, 0, 2, 3));
    }

    static void p16Clear() {
        ArrayFile x = new ArrayFile();
        Due.is("empty", 0, x.clear(0));
        x.slab(0, 0, 3, 4, 11);
        x.slab(1, 0, 1, 1, 11);
        Due.is("had 12", 12, x.clear(0));
        Due.is("now empty", 0, x.clear(0));
        Due.is("the other had one", 1, x.clear(1));
        Due.is("a slab behind it", 1, x.slab(0, 0, 1, 1, 11));
        Due.ioobe("2", () -> x.clear(2));
        Due.ioobe("-1", () -> x.clear(-1));
        Due.ioobe("largest", () -> x.clear(MAX));
        Due.ioobe("lowest", () -> x.clear(MIN));
    }

    static void p17Slab() {
        ArrayFile x = new ArrayFile();
        Due.is("all", 576, x.slab(0, 0, 24, 24, 11));
        Due.is("all again", 576, x.slab(0, 0, 24, 24, 11));
        Due.is("steps", 6, x.slab(1, 203, 2, 3, 29));
        Due.is("one of them again", 6, x.slab(1, 412, 1, 1, 11));
        Due.is("one beside", 7, x.slab(1, 411, 1, 1, 99));
        Due.is("last cell", 8, x.slab(1, 2323, 1, 1, 99));
        Due.ioobe("which", () -> x.slab(2, 0, 1, 1, 11));
        Due.ioobe("which, ahead of rows", () -> x.slab(-1, 0, 0, 1, 11));
        for (int from : new int[] {-1, -100, 24, 99, 2400, 2324, MAX, MIN}) {
            Due.ioobe("from " + from, () -> x.slab(0, from, 1, 1, 11));
            Due.ioobe("from comes first " + from, () -> x.slab(0, from, 0, 1, 11));
        }
        for (int bad : new int[] {0, 25, -1, MAX, MIN}) {
            Due.iae("rows " + bad, () -> x.slab(0, 2323, bad, 24, 99));
            Due.iae("columns " + bad, () -> x.slab(0, 2323, 24, bad, 99));
        }
        for (int bad : new int[] {0, 1, 10, 100, 101, 9, -11, 90, MAX, MIN}) {
            Due.iae("steps " + bad, () -> x.slab(0, 2323, 2, 2, bad));
        }
        Due.ioobe("beyond row 23", () -> x.slab(1, 2300, 2, 1, 11));
        Due.ioobe("beyond column 23", () -> x.slab(1, 23, 1, 2, 11));
        Due.ioobe("beyond by steps", () -> x.slab(1, 0, 4, 1, 81));
        Due.is("nothing changed", 8, x.clear(1));
        Due.is("just within", 4, x.slab(1, 500, 2, 2, 99));
        Due.is("just within", 13, x.slab(1, 505, 3, 3, 99));
    }

    static void p18Copy() {
        ArrayFile x = withArray(203, 2, 11, 0, 0);
        array(x, "b", 302, 0, 32, 0, 0);
        for (int i = 0; i < 6; i++) {
            x.write(1, i / 3, i % 3, 1000 + i);
        }
        select(x, 0, 0, 2, 3);
        select(x, 1, 0, 3, 2);
        Due.is("six", 6, x.copy(1, 2));
        for (int i = 0; i < 6; i++) {
            Due.is("in order, cut", (byte) (1000 + i), x.read(2, i / 2, i % 2));
            Due.is("in order, plain", (byte) (1000 + i), x.plain(2, i / 2, i % 2));
        }
        array(x, "c", 101, 1, 11, 0, 0);
        select(x, 0, 0, 1, 1);
        select(x, 1, 0, 1, 1);
        x.write(1, 0, 0, -1);
        x.copy(1, 3);
        Due.is("lowest two bytes, without sign", 65535, x.read(3, 0, 0));
        x.write(1, 0, 0, 128);
        x.copy(1, 2);
        Due.is("lowest byte, with sign", -128, x.read(2, 0, 0));
        x.clear(0);
        Due.iae("not as many", () -> x.copy(1, 2));
        x.clear(1);
        Due.is("none", 0, x.copy(1, 2));
        select(x, 0, 0, 1, 3);
        select(x, 1, 0, 1, 3);
        Due.ioobe("not in to", () -> x.copy(1, 2));
        Due.ioobe("not in from", () -> x.copy(2, 1));
        Due.ioobe("from a group", () -> x.copy(0, 1));
        Due.ioobe("to a group", () -> x.copy(1, 0));
        Due.ioobe("no from", () -> x.copy(9, 1));
        Due.ioobe("no to", () -> x.copy(1, -1));
        view(x, "v", 203, 6);
        Due.ioobe("to a view", () -> x.copy(1, 4));
        x.clear(0);
        Due.ioobe("a cell comes ahead of the number", () -> x.copy(1, 2));
        select(x, 0, 0, 1, 3);
        Due.is("from a view", 3, x.copy(4, 1));
        Due.is("its fill", 6, x.read(1, 0, 2));
        copyWithinOne();
        copyOfBad();
        copyToFull();
    }

    private static void copyWithinOne() {
        ArrayFile x = withArray(104, 0, 14, 4, 0);
        for (int i = 0; i < 4; i++) {
            x.write(1, 0, i, i + 1);
        }
        select(x, 0, 0, 1, 3);
        select(x, 1, 1, 1, 3);
        Due.is("three", 3, x.copy(1, 1));
        for (int i = 0; i < 4; i++) {
            Due.is("all are read first", i == 0 ? 1 : i, x.read(1, 0, i));
        }
    }

    private static void copyOfBad() {
        ArrayFile x = withArray(104, 0, 12, 8, 0);
        array(x, "b", 104, 0, 12, 8, 0);
        x.write(1, 0, 0, 1);
        x.write(1, 0, 3, 2);
        x.write(2, 0, 0, 3);
        x.write(2, 0, 3, 4);
        x.spoil(1, 0, 3, 0);
        select(x, 0, 0, 1, 4);
        select(x, 1, 0, 1, 4);
        Due.ise("from is bad", () -> x.copy(1, 2));
        Due.is("nothing changed", 3, x.read(2, 0, 0));
        Due.ise("to is bad", () -> x.copy(2, 1));
        Due.is("nothing changed", 1, x.read(1, 0, 0));
        select(x, 0, 0, 1, 2);
        select(x, 1, 0, 1, 2);
        Due.is("others are not bad", 2, x.copy(1, 2));
        select(x, 1, 0, 1, 3);
        Due.iae("number comes ahead of bad", () -> x.copy(2, 1));
    }

    private static void copyToFull() {
        ArrayFile x = withArray(2424, 2, 88, 0, 0);
        view(x, "v", 2424, 5);
        select(x, 0, 0, 24, 24);
        select(x, 1, 0, 24, 24);
        Due.is("five chunks, then no place", 8 * 24 + 16, x.copy(2, 1));
        Due.is("written", 5, x.read(1, 8, 15));
        Due.is("not written", 0, x.read(1, 8, 16));
        Due.is("not written, plain", 0, x.plain(1, 8, 16));
        Due.is("nor those behind it", 0, x.read(1, 9, 0));
        Due.is("nor those behind it, plain", 0, x.plain(1, 9, 0));
        Due.is("five", 5, x.object(1, 3));
        ArrayFile y = withArray(2424, 0, 88, 4, 0);
        view(y, "v", 2424, 5);
        select(y, 0, 0, 24, 24);
        select(y, 1, 0, 24, 24);
        Due.is("one by one", 576, y.copy(2, 1));
        Due.is("two bytes a chunk", 18, y.used(false));
        bytesAre("as one by one leaves them", y, 0, 64, 5, 64, 5, 64, 5, 64, 5, 64, 5, 64, 5, 64, 5, 64, 5, 64, 5, -1);
    }

    static void p19Map() {
        ArrayFile x = withArray(303, 0, 33, 8, 5);
        view(x, "v", 304, -1000);
        Due.is("empty map", 1, x.map(2, 1));
        for (int i = 0; i < 9; i++) {
            x.write(1, i / 3, i % 3, 10 + i);
        }
        select(x, 0, 0, 2, 3);
        x.clear(1);
        x.slab(1, 0, 3, 2, 11);
        Due.is("second", 2, x.map(2, 1));
        Due.is("in order", 11, x.read(2, 0, 1));
        Due.is("in order", 12, x.read(2, 1, 0));
        Due.is("in order", 15, x.read(2, 2, 1));
        Due.is("no map has it", -1000, x.read(2, 0, 2));
        Due.ioobe("read is no map of rows", () -> x.read(2, 3, 0));
        select(x, 0, 2323, 1, 1);
        select(x, 1, 1, 1, 1);
        Due.is("a cell that the array does not have", 3, x.map(2, 1));
        Due.is("the latest map: fill, not of an earlier one", -1000, x.read(2, 0, 1));
        Due.is("the others stay", 10, x.read(2, 0, 0));
        x.resize(1, 2424);
        Due.is("has the cell now", 5, x.read(2, 0, 1));
        x.write(1, 23, 23, 99);
        Due.is("is that of the array", 99, x.read(2, 0, 1));
        x.clear(1);
        x.slab(1, 3, 1, 1, 11);
        array(x, "b", 101, 2, 11, 0, MAX);
        select(x, 0, 0, 1, 1);
        Due.is("fourth", 4, x.map(2, 3));
        Due.is("of another array", MAX, x.read(2, 0, 3));
        Due.ioobe("group for a view", () -> x.map(0, 1));
        Due.ioobe("array for a view", () -> x.map(1, 1));
        Due.ioobe("view for an array", () -> x.map(2, 2));
        Due.ioobe("group for an array", () -> x.map(2, 0));
        Due.ioobe("none", () -> x.map(9, 1));
        Due.ioobe("none", () -> x.map(2, -1));
        select(x, 1, 4, 1, 1);
        Due.ioobe("not in the view", () -> x.map(2, 1));
        x.clear(0);
        Due.ioobe("not in the view comes first", () -> x.map(2, 1));
        x.clear(1);
        x.slab(1, 0, 1, 1, 11);
        Due.iae("not as many", () -> x.map(2, 1));
        x.slab(0, 0, 1, 1, 11);
        Due.is("fifth", 5, x.map(2, 1));
        Due.is("sixth", 6, x.map(2, 1));
        Due.ise("seventh", () -> x.map(2, 1));
        x.clear(0);
        Due.iae("not as many comes ahead of 6", () -> x.map(2, 1));
        x.spoil(1, 0, 0, 0);
        Due.is("bad", 8, x.bad(2, 0, 0));
        Due.ise("bad", () -> x.read(2, 0, 0));
        Due.is("a map is no hard link", 1, unlink(x, "b"));
        Due.is("gone", -1000, x.read(2, 0, 3));
        Due.is("extents of a view", 304, x.object(2, 2));
    }

    static void p20Object() {
        ArrayFile x = withArray(507, 0, 22, 0, 0);
        view(x, "v", 203, 0);
        group(x, "g");
        link(x, "g/a", 1);
        soft(x, "g/s>a");
        x.write(1, 0, 0, 1);
        x.write(1, 4, 6, 1);
        int[][] due = {{0, 0, 3, 0, 0}, {1, 2, 507, 2, 8}, {2, 1, 203, 0, 0}, {0, 1, 2, 0, 0}};
        for (int object = 0; object < due.length; object++) {
            for (int what = 0; what < 5; what++) {
                Due.is("object " + object + ", " + what, due[object][what], x.object(object, what));
            }
        }
        for (int what : new int[] {-1, 5, MAX, MIN}) {
            Due.iae("what " + what, () -> x.object(0, what));
            Due.ioobe("object comes first, what " + what, () -> x.object(4, what));
        }
        Due.ioobe("none", () -> x.object(-1, 0));
        Due.ioobe("none", () -> x.object(30, 0));
        Due.ioobe("none", () -> x.object(MAX, 0));
        unlink(x, "v");
        Due.ioobe("gone", () -> x.object(2, 0));
    }

    static void p21FileAt() {
        ArrayFile x = withArray(101, 1, 11, 0, 0);
        Due.is("free", -1, x.fileAt(0));
        x.write(1, 0, 0, 255);
        bytesAre("bytes", x, 0, 255, 0, -1);
        Due.is("last", -1, x.fileAt(1499));
        for (int place : new int[] {-1, 1500, MAX, MIN}) {
            Due.ioobe("place " + place, () -> x.fileAt(place));
        }
    }

    static void p22Used() {
        ArrayFile x = withArray(106, 0, 11, 0, 0);
        Due.is("none", 0, x.used(false));
        Due.is("one hole", 1, x.used(true));
        for (int i = 0; i < 6; i++) {
            x.write(1, 0, i, 1);
        }
        Due.is("six", 6, x.used(false));
        Due.is("one hole", 1, x.used(true));
        x.write(1, 0, 0, 0);
        x.write(1, 0, 2, 0);
        x.write(1, 0, 3, 0);
        Due.is("three", 3, x.used(false));
        Due.is("three holes, one of two bytes", 3, x.used(true));
        x.write(1, 0, 5, 0);
        Due.is("holes that touch are one", 3, x.used(true));
        ArrayFile full = withArray(2424, 2, 88, 0, 0);
        array(full, "b", 2424, 1, 88, 0, 0);
        array(full, "c", 524, 0, 55, 0, 0);
        array(full, "d", 308, 0, 11, 0, 0);
        for (int i = 0; i < 5; i++) {
            full.write(1, i / 3 * 8, i % 3 * 8, 1);
        }
        full.write(2, 0, 0, 1);
        full.write(3, 0, 0, 1);
        full.write(3, 0, 5, 1);
        full.write(3, 0, 10, 1);
        for (int i = 0; i < 17; i++) {
            full.write(4, i / 8, i % 8, 1);
        }
        Due.is("1500", 1500, full.used(false));
        Due.is("no hole", 0, full.used(true));
        Due.is("last byte", 1, full.fileAt(1499));
        Due.ise("no place", () -> full.write(4, 2, 1, 1));
    }

    static void all() {
        p1NewObject();
        p2Type();
        p3Find();
        p4Group();
        p5Array();
        p6View();
        p7Link();
        p8Unlink();
        p9Trouble();
        p10Write();
        p11Read();
        p12Bad();
        p13Plain();
        p14Spoil();
        p15Resize();
        p16Clear();
        p17Slab();
        p18Copy();
        p19Map();
        p20Object();
        p21FileAt();
        p22Used();
    }
}
