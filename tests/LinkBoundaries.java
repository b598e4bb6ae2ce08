import java.util.LinkedHashMap;
import java.util.Map;

/** The sentences on objects, the line, links and trouble that name a boundary case (promises 1 to 9). */
final class LinkBoundaries extends Calls {
    private interface Reader {
        int go(ArrayFile x, String line);
    }

    /** The calls that make an object. */
    private static final Map<String, Reader> OBJECT_MAKERS = new LinkedHashMap<>();
    /** The calls that make a link. */
    private static final Map<String, Reader> LINK_MAKERS = new LinkedHashMap<>();
    /** The calls that read the line. */
    private static final Map<String, Reader> READERS = new LinkedHashMap<>();

    static {
        OBJECT_MAKERS.put("group", Calls::group);
        OBJECT_MAKERS.put("array", (x, line) -> array(x, line, 101, 0, 11, 0, 0));
        OBJECT_MAKERS.put("view", (x, line) -> view(x, line, 101, 0));
        LINK_MAKERS.putAll(OBJECT_MAKERS);
        LINK_MAKERS.put("hard link", (x, line) -> link(x, line, 0));
        LINK_MAKERS.put("soft link", (x, line) -> soft(x, line + ">a"));
        READERS.putAll(LINK_MAKERS);
        READERS.put("find", Calls::find);
        READERS.put("unlink", Calls::unlink);
        READERS.put("the PATH of a soft link", (x, line) -> soft(x, "soft>" + line));
    }

    private LinkBoundaries() {
    }

    private static String letter(int i) {
        return "" + (char) ('a' + i);
    }

    private static String times(String name, int count) {
        return "/".concat(name).repeat(count).substring(1);
    }

    // ---- objects

    /** The root and so many objects more: the groups a and b, and then groups, arrays and views by turns. */
    private static ArrayFile withObjects(int count) {
        ArrayFile x = new ArrayFile();
        group(x, "a");
        group(x, "b");
        Reader[] makers = OBJECT_MAKERS.values().toArray(new Reader[0]);
        for (int i = 3; i <= count; i++) {
            String parent = i < 15 ? "a/" : i < 27 ? "b/" : "";
            Due.is("object " + i, i, makers[i % 3].go(x, parent + "x" + letter(i % 26)));
        }
        return x;
    }

    private static void objects() {
        Due.says("Objects are numbered from 0, at most 30 ever; the object 0 is the root group.");
        for (String call : OBJECT_MAKERS.keySet()) {
            Reader maker = OBJECT_MAKERS.get(call);
            Due.is(call + ": the 30th", 29, maker.go(withObjects(28), "z"));
            Refused.ise(call + ": the 31st", () -> withObjects(29), x -> maker.go(x, "z"));
            Refused.ise(call + ": the 31st, of a group with room", () -> withObjects(29), x -> maker.go(x, "a/xd/z"));
        }
        ArrayFile x = withObjects(29);
        Due.is("the root is a group", 0, x.object(0, 0));
        Due.is("the last one", 29, find(x, "xd"));
        Due.is("the last one's sort", 2, x.object(29, 0));
        Due.ioobe("there is no 30", () -> x.object(30, 0));
        Due.ioobe("there is no -1", () -> x.object(-1, 0));
        Due.is("hard links are no objects", 6, link(x, "h", 29));
        Due.is("soft links are no objects", 7, soft(x, "s>a"));
        Due.says("ever");
        ArrayFile y = withObjects(28);
        Due.is("the last one goes", 1, unlink(y, "xc"));
        Due.is("its number is not given again", 29, group(y, "xc"));
        Due.ioobe("nor is it there", () -> y.object(28, 0));
        Due.is("this one goes, too", 1, unlink(y, "xc"));
        for (String call : OBJECT_MAKERS.keySet()) {
            Due.ise(call + ": there were 30", () -> OBJECT_MAKERS.get(call).go(y, "xc"));
            Due.is("the line is empty", 0, y.type(0));
        }
    }

    private static void thirtyObjectsAndTrouble() {
        Due.says("if there were 30 objects; or, without TROUBLE, if the group has a link of that NAME, or 12");
        for (String call : OBJECT_MAKERS.keySet()) {
            Reader maker = OBJECT_MAKERS.get(call);
            Due.is(call + " with TROUBLE", -1, maker.go(withObjects(28), "no/z"));
            Refused.ise(call + ", 30 and MISSING", () -> withObjects(29), x -> maker.go(x, "no/z"));
            Refused.ise(call + ", 30 and NO_GROUP", () -> withObjects(29), x -> maker.go(x, "xd/z"));
            Refused.ise(call + ", 30 and the NAME", () -> withObjects(29), x -> maker.go(x, "xd"));
            Refused.ise(call + ", 30 and 12 links", () -> withObjects(29), x -> maker.go(x, "b/z"));
            Refused.iae(call + ", 30 and no PATH", () -> withObjects(29), x -> maker.go(x, "Z"));
        }
        ArrayFile x = withObjects(29);
        Due.is("a hard link is in TROUBLE", -1, link(x, "no/z", 1));
        troubleIs("MISSING", x, 1, 0);
        Due.is("a soft link is in TROUBLE", -1, soft(x, "xd/z>a"));
        troubleIs("NO_GROUP", x, 2, 0);
    }

    /** So many links of the root, or of its group g: groups, arrays, views, hard links and soft ones by turns. */
    private static ArrayFile withLinks(String parent, int count) {
        ArrayFile x = new ArrayFile();
        if (!parent.isEmpty()) {
            group(x, "g");
        }
        Reader[] makers = LINK_MAKERS.values().toArray(new Reader[0]);
        for (int i = 0; i < count; i++) {
            makers[i % 5].go(x, parent + letter(i));
        }
        return x;
    }

    private static void links() {
        Due.says("A group has at most 12 links");
        for (String parent : new String[] {"", "g/"}) {
            int number = parent.isEmpty() ? 0 : 1;
            for (String call : LINK_MAKERS.keySet()) {
                Reader maker = LINK_MAKERS.get(call);
                ArrayFile x = withLinks(parent, 11);
                Due.is("eleven", 11, x.object(number, 2));
                maker.go(x, parent + "z");
                Due.is(call + " is the twelfth", 12, x.object(number, 2));
                Refused.ise(call + " would be the thirteenth", () -> withLinks(parent, 12),
                        y -> maker.go(y, parent + "z"));
                Refused.ise(call + " would be the thirteenth, and of a NAME that is there",
                        () -> withLinks(parent, 12), y -> maker.go(y, parent + "a"));
            }
            ArrayFile x = withLinks(parent, 12);
            unlink(x, parent + "a");
            Due.is("room for one", 12, link(x, parent + "z", 0));
            Due.ise("no room for two", () -> link(x, parent + "y", 0));
            Due.is("one of 4 letters is found", 0, find(x, parent + "z"));
        }
        ArrayFile full = withLinks("g/", 12);
        Due.is("another group has room", 2, link(full, "h", 1));
        Due.is("the last one of twelve is found", 1, full.object(find(full, "g/l"), 0));
    }

    private static void names() {
        Due.says("a NAME, 1 to 4 small letters, unlike in one group");
        String[] names = {"a", "z", "aa", "az", "za", "aaa", "aaaa", "zzzz", "aaab", "abaa"};
        ArrayFile x = new ArrayFile();
        for (int i = 0; i < names.length; i++) {
            Due.is("new: " + names[i], i + 1, group(x, names[i]));
        }
        for (int i = 0; i < names.length; i++) {
            Due.is("found: " + names[i], i + 1, find(x, names[i]));
        }
        String[] wrong = {"aaaaa", "zzzzz", "aaaaaaaa", "`", "{", "a`", "{a", "A", "Z", "aB", "0", "a1", " ", " a", "a ",
            "a.b", "a>", "~", "a\\b", "_"};
        for (String call : READERS.keySet()) {
            for (String line : wrong) {
                Refused.iae(call + ": " + line, LinkBoundaries::inGroups, y -> READERS.get(call).go(y, line));
                Due.iae(call + ": g/" + line, () -> READERS.get(call).go(inGroups(), "g/" + line));
                Due.iae(call + ": " + line + "/g", () -> READERS.get(call).go(inGroups(), line + "/g"));
            }
        }
        for (String there : new String[] {"a", "b", "c", "d", "e"}) {
            for (String call : LINK_MAKERS.keySet()) {
                Reader maker = LINK_MAKERS.get(call);
                Refused.ise(call + ", and there is " + there, () -> withLinks("g/", 5), y -> maker.go(y, "g/" + there));
                ArrayFile y = withLinks("g/", 5);
                maker.go(y, there);
                Due.is(call + " of that NAME in another group", 2, y.object(0, 2));
                maker.go(y, "g/" + there + there);
                Due.is(call + " of another NAME", 6, y.object(1, 2));
            }
        }
    }

    private static void hardLinks() {
        Due.says("An object other than the root to which no hard link leads any more is gone for good");
        ArrayFile x = withArray(102, 0, 12, 0, 0);
        x.write(1, 0, 0, 5);
        group(x, "g");
        link(x, "g/b", 1);
        soft(x, "s>g/b");
        Due.is("two hard links", 2, x.object(1, 1));
        Due.is("one goes", 0, unlink(x, "a"));
        Due.is("one hard link", 1, x.object(1, 1));
        Due.is("it is there", 5, x.read(1, 0, 0));
        Due.is("by the soft link, too", 1, find(x, "s"));
        Due.is("the other one goes", 1, unlink(x, "g/b"));
        Due.is("its bytes are free", 0, x.used(false));
        for (int what = 0; what < 5; what++) {
            int one = what;
            Due.ioobe("object", () -> x.object(1, one));
        }
        Due.ioobe("read", () -> x.read(1, 0, 0));
        Due.ioobe("write", () -> x.write(1, 0, 0, 0));
        Due.ioobe("bad", () -> x.bad(1, 0, 0));
        Due.ioobe("plain", () -> x.plain(1, 0, 0));
        Due.ioobe("spoil", () -> x.spoil(1, 0, 0, 0));
        Due.ioobe("resize", () -> x.resize(1, 101));
        Due.ioobe("link", () -> x.link(1));
        Due.is("the soft link stays", 2, x.object(0, 2));
        Due.is("and is in TROUBLE", -1, find(x, "s"));
        troubleIs("MISSING", x, 1, 0, 1, 2);
        Due.is("another object of the PATH", 3, array(x, "g/b", 101, 0, 11, 0, 7));
        Due.is("is what it leads to", 3, find(x, "s"));
        Due.is("the root stays without hard links", 0, x.object(0, 1));
        Due.is("one to the root", 3, link(x, "r", 0));
        Due.is("it has one", 1, x.object(0, 1));
        Due.is("none of the root", 0, unlink(x, "r"));
        Due.is("it has none", 0, x.object(0, 1));
        Due.is("and is there", 2, x.object(0, 2));
    }

    /** All 29 objects that there can be beside the root: each group in the one ahead of it. */
    private static ArrayFile withChain() {
        ArrayFile x = new ArrayFile();
        for (int i = 1; i <= 8; i++) {
            group(x, times("a", i));
        }
        String[] softs = {"s", "t", "u"};
        for (int k = 0; k < 3; k++) {
            soft(x, softs[k] + ">" + (k == 0 ? times("a", 8) : softs[k - 1] + "/" + times("a", 7)));
            for (int i = 1; i <= 7; i++) {
                group(x, softs[k] + "/" + times("a", i));
            }
        }
        Due.is("the last one of the chain", 29, find(x, "u/" + times("a", 7)));
        return x;
    }

    private static void goneLinks() {
        Due.says("(and so its links: others can be gone by that, the lowest first)");
        ArrayFile x = withChain();
        Due.is("all are gone", 29, unlink(x, "a"));
        for (int i = 1; i < 30; i++) {
            int one = i;
            Due.ioobe("gone: " + i, () -> x.object(one, 0));
        }
        Due.is("but for the root, with soft links", 3, x.object(0, 2));
        ArrayFile y = withChain();
        Due.is("the last one alone", 1, unlink(y, "u/" + times("a", 7)));
        Due.is("the others but for the first", 27, unlink(y, "a/a"));
        Due.is("the first", 1, unlink(y, "a"));
        ArrayFile z = new ArrayFile();
        group(z, "p");
        group(z, "q");
        link(z, "q/x", 1);
        link(z, "q/y", 1);
        link(z, "q/r", 0);
        soft(z, "q/s>q");
        Due.is("three hard links", 3, z.object(1, 1));
        Due.is("one less", 0, unlink(z, "p"));
        Due.is("two in one group", 2, z.object(1, 1));
        Due.is("one to the root", 1, z.object(0, 1));
        Due.is("a lower one is gone by a higher one, once", 2, unlink(z, "q"));
        Due.is("the root has one less", 0, z.object(0, 1));
        Due.ioobe("the lower one", () -> z.object(1, 0));
        Due.is("numbers go on", 3, group(z, "q"));
        array(z, "q/a", 104, 0, 12, 0, 0);
        z.write(4, 0, 0, 1);
        z.write(4, 0, 3, 1);
        view(z, "q/v", 101, 0);
        Due.is("four bytes", 4, z.used(false));
        Due.is("a group, its array and its view", 3, unlink(z, "q"));
        Due.is("no bytes", 0, z.used(false));
        Due.is("one hole", 1, z.used(true));
    }

    private static void rings() {
        Due.says("rings of groups that lead to one another stay");
        for (int length = 1; length <= 3; length++) {
            ArrayFile x = new ArrayFile();
            for (int i = 1; i <= length; i++) {
                group(x, times("g", i));
            }
            array(x, times("g", length) + "/a", 101, 0, 11, 0, 0);
            x.write(length + 1, 0, 0, 3);
            link(x, times("g", length) + "/r", 1);
            Due.is("none is gone", 0, unlink(x, "g"));
            Due.is("the root has no link", 0, x.object(0, 2));
            Due.is("the ring's first has one", 1, x.object(1, 1));
            Due.is("what is in a ring stays", 3, x.read(length + 1, 0, 0));
            Due.is("with its byte", 1, x.used(false));
            Due.is("linked again", 1, link(x, "n", 1));
            Due.is("around it", 1, find(x, length == 1 ? "n/r" : length == 2 ? "n/g/r" : "n/g/g/r"));
            unlink(x, length == 1 ? "n/r" : length == 2 ? "n/g/r" : "n/g/g/r");
            Due.is("no ring any more: all are gone", length + 1, unlink(x, "n"));
            Due.is("the byte, too", 0, x.used(false));
        }
        ArrayFile x = new ArrayFile();
        group(x, "g");
        soft(x, "g/s>g");
        Due.is("a soft link makes no ring", 1, unlink(x, "g"));
        group(x, "h");
        link(x, "h/r", 0);
        Due.is("nor does the root", 1, unlink(x, "h"));
    }

    // ---- the line, paths

    private static ArrayFile withLine(int signs) {
        ArrayFile x = new ArrayFile();
        for (int i = 0; i < signs; i++) {
            Due.is("sign " + i, i + 1, x.type('a'));
        }
        return x;
    }

    private static void line() {
        Due.says("There is a line of at most 48 signs, codes 32 to 126");
        for (int count = 0; count <= 8; count++) {
            long signs = Due.signs("abcdefgh".substring(0, count));
            Due.is("to 48 by " + count, 48, withLine(48 - count).type(signs));
            int room = 48 - count;
            if (count > 0) {
                Refused.ise("to 49 by " + count, () -> withLine(room + 1), x -> x.type(signs));
            }
        }
        Due.is("41 and 7", 48, withLine(41).type(Due.signs("abcdefg")));
        for (int position = 0; position < 8; position++) {
            long others = Due.signs("aaaaaaaa".substring(0, position));
            for (long code : new long[] {1, 31, 127, 128, 255}) {
                long signs = others | code << 8 * position;
                Refused.iae("code " + code + " at " + position, () -> withLine(1), x -> x.type(signs));
            }
            for (long code : new long[] {32, 126}) {
                Due.is("code " + code + " at " + position, position + 2, withLine(1).type(others | code << 8 * position));
            }
        }
        Refused.iae("out of range comes ahead of 49", () -> withLine(48), x -> x.type(31));
        Refused.iae("and so does something behind 0", () -> withLine(48), x -> x.type((long) 'a' << 8));
    }

    private static void signsBehindZero() {
        Due.says("each in 8 bits, from the lowest ones on, up to 8 bits of 0");
        Due.is("none", 1, withLine(1).type(0));
        for (int position = 1; position < 8; position++) {
            long ahead = Due.signs("aaaaaaa".substring(0, position - 1));
            long behind = ahead | (long) 'a' << 8 * position;
            Refused.iae("behind 8 bits of 0 at " + (position - 1), () -> withLine(2), x -> x.type(behind));
            Refused.iae("out of range, behind 8 bits of 0 at " + (position - 1), () -> withLine(2),
                    x -> x.type(ahead | 1L << 8 * 7));
        }
        ArrayFile x = new ArrayFile();
        group(x, "abcd");
        x.type(Due.signs("ab"));
        Due.is("from the lowest ones on", 4, x.type(Due.signs("cd")));
        Due.is("they are in their order", 1, x.find());
    }

    /** The groups g (1), which leads to itself by g/g, and g/h (2), the array a (3), and what is missing. */
    private static ArrayFile inGroups() {
        ArrayFile x = new ArrayFile();
        group(x, "g");
        group(x, "g/h");
        link(x, "g/g", 1);
        array(x, "a", 202, 0, 22, 0, 0);
        view(x, "v", 202, 0);
        return x;
    }

    private static void readsTheLine() {
        Due.says("a call that reads it leaves it empty, however that call ends, but by IndexOutOfBounds");
        for (String call : READERS.keySet()) {
            Reader reader = READERS.get(call);
            ArrayFile x = inGroups();
            Due.is(call + " answers", 1, reader.go(x, call.equals("find") || call.equals("unlink") ? "g/h" : "g/n") < 0
                    ? 0 : 1);
            Due.is(call + ": the line behind an answer", 0, x.type(0));
            Due.iae(call + " throws", () -> reader.go(x, "g/N"));
            Due.is(call + ": the line behind no PATH", 0, x.type(0));
            if (!call.startsWith("the")) {
                Due.is(call + " tells NONE", -1, reader.go(x, "x/n"));
                Due.is(call + ": the line behind NONE", 0, x.type(0));
            }
        }
        for (String call : LINK_MAKERS.keySet()) {
            ArrayFile x = inGroups();
            Due.ise(call + " throws", () -> LINK_MAKERS.get(call).go(x, "g/h"));
            Due.is(call + ": the line behind a NAME that is there", 0, x.type(0));
        }
        ArrayFile x = inGroups();
        Due.iae("an argument is out of range", () -> array(x, "n", 0, 0, 11, 0, 0));
        Due.is("array", 0, x.type(0));
        Due.iae("shape is out of range", () -> view(x, "n", 0, 0));
        Due.is("view", 0, x.type(0));
        Due.says("IndexOutOfBoundsException as told, object not being NONE (the line stays)");
        x.type(Due.signs("g/n"));
        for (int object : new int[] {-2, 5, 29, 30, MAX, MIN}) {
            Due.ioobe("no object " + object, () -> x.link(object));
            Due.is("the line stays", 3, x.type(0));
        }
        Due.is("and is read", 3, x.link(3));
        unlink(x, "v");
        x.type('N');
        Due.ioobe("a gone object comes ahead of no PATH", () -> x.link(4));
        Due.is("the line stays", 1, x.type(0));
        Due.iae("no PATH", () -> x.link(0));
        Due.is("the line goes", 0, x.type(0));
    }

    private static void leavesTheLine() {
        Due.says("a call that reads it leaves it empty .. (the other calls leave it as it is)");
        ArrayFile x = inGroups();
        find(x, "no");
        x.type(Due.signs("g/h"));
        x.trouble(0, true);
        Due.ioobe("trouble", () -> x.trouble(-1, true));
        x.write(3, 0, 0, 1);
        Due.ioobe("write", () -> x.write(0, 0, 0, 1));
        Due.iae("write", () -> x.write(3, 0, 0, 1000));
        x.read(3, 0, 0);
        Due.ioobe("read", () -> x.read(3, 9, 0));
        x.bad(3, 0, 0);
        x.plain(3, 0, 0);
        x.spoil(3, 0, 0, 0);
        Due.ioobe("spoil", () -> x.spoil(3, 0, 0, 9));
        x.resize(3, 303);
        Due.iae("resize", () -> x.resize(3, 0));
        x.slab(0, 0, 1, 1, 11);
        Due.iae("slab", () -> x.slab(0, 0, 0, 1, 11));
        Due.iae("copy", () -> x.copy(3, 3));
        x.clear(0);
        Due.ioobe("clear", () -> x.clear(2));
        x.copy(3, 3);
        x.map(4, 3);
        Due.ioobe("map", () -> x.map(3, 4));
        x.object(0, 0);
        Due.iae("object", () -> x.object(0, 5));
        x.fileAt(0);
        x.used(true);
        Due.is("the line is what it was", 3, x.type(0));
        Due.is("and is read", 2, x.find());
    }

    private static void paths() {
        Due.says("A PATH is NAMEs with / between, 1 to 8 of them.");
        String[] wrong = {"", "/", "//", "/g", "g/", "g//h", "/g/h", "g/h/", "g g", times("g", 9), times("g", 10),
            times("g", 8) + "/", "/" + times("g", 8), times("g", 8) + "//"};
        for (String call : READERS.keySet()) {
            Reader reader = READERS.get(call);
            for (String one : wrong) {
                Refused.iae(call + ": " + one, LinkBoundaries::inGroups, x -> reader.go(x, one));
            }
            boolean isSeeker = call.equals("find") || call.equals("unlink");
            for (int count = 1; count <= 8; count++) {
                String path = isSeeker ? times("g", count) : count == 1 ? "n" : times("g", count - 1) + "/n";
                Due.is(call + " of " + count + " NAMEs", 1, reader.go(inGroups(), path) < 0 ? 0 : 1);
            }
        }
        ArrayFile x = inGroups();
        soft(x, "s>" + times("g", 8));
        Due.is("a soft link of 8 NAMEs", 1, find(x, "s"));
        Due.is("the last NAME of 8 is what counts", 2, find(x, times("g", 7) + "/h"));
        group(x, "abcd");
        link(x, "abcd/abcd", 5);
        Due.is("8 NAMEs of 4 letters", 5, find(x, times("abcd", 8)));
        soft(x, "t>" + times("abcd", 8));
        Due.is("8 NAMEs of 4 letters of a soft link", 5, find(x, "t"));
        Due.iae("a soft link's line has one >", () -> soft(x, "u>g>h"));
        Due.iae("a soft link's line has a >", () -> soft(x, "u"));
        Due.iae("a hard link's line has none", () -> link(x, "u>g", 1));
    }

    private static void waysOfPaths() {
        Due.says("each NAME but the last one has to be a link that leads to a group");
        ArrayFile x = inGroups();
        soft(x, "s>a");
        soft(x, "t>g");
        int[] due = {1, 2, 2, 3, 4, 3, 1, 2};
        String[] good = {"g", "g/h", "t/h", "a", "v", "s", "t", "t/g/h"};
        for (int i = 0; i < good.length; i++) {
            Due.is(good[i], due[i], find(x, good[i]));
        }
        for (String bad : new String[] {"a/a", "v/v", "s/a"}) {
            Due.is(bad, -1, find(x, bad));
            troubleIs(bad, x, 2, 0);
        }
        Due.says("A soft link leads to what its PATH leads to, from the root, as it is now.");
        Due.is("made ahead of what it leads to", 3, soft(x, "g/r>h"));
        Due.is("not yet: from the root", -1, find(x, "g/r"));
        troubleIs("g/h is not what is meant", x, 1, 2, 1, 0);
        Due.is("h", 5, group(x, "h"));
        Due.is("now", 5, find(x, "g/r"));
        unlink(x, "h");
        Due.is("not any more", -1, find(x, "g/r"));
        Due.is("another h", 6, link(x, "h", 3));
        Due.is("an array now", 3, find(x, "g/r"));
    }

    // ---- trouble

    private static void troubles() {
        Due.says("TROUBLE with a PATH is at a NAME, told by its place, from 0, the first letter in its PATH");
        ArrayFile x = new ArrayFile();
        group(x, "abcd");
        link(x, "abcd/abcd", 1);
        array(x, "abcd/a", 101, 0, 11, 0, 0);
        for (int count = 0; count < 8; count++) {
            String ahead = count == 0 ? "" : times("abcd", count) + "/";
            Due.is("NAME " + count + " is missing", -1, find(x, ahead + "b"));
            troubleIs("MISSING", x, 1, 5 * count);
            if (count > 0 && count < 7) {
                Due.is("NAME " + count + " is no group", -1, find(x, ahead + "a/abcd"));
                troubleIs("NO_GROUP", x, 2, 5 * count);
            }
        }
        Due.says("1 MISSING, there is no link of this NAME; 2 NO_GROUP, it leads to no group, and is not the last one");
        Due.is("the first one in TROUBLE is told", -1, find(x, "b/c/d"));
        troubleIs("MISSING, though not the last one", x, 1, 0);
        Due.is("the first one in TROUBLE is told", -1, find(x, "abcd/a/b/c"));
        troubleIs("NO_GROUP, though the next one is missing", x, 2, 5);
        Due.is("no group, but the last one", 2, find(x, "abcd/a"));
        Due.says("Tells of the latest TROUBLE with a PATH that a call told by NONE.");
        troubleIs("an answer leaves it", x, 2, 5);
        Due.iae("no PATH", () -> find(x, "b/"));
        Due.ise("the NAME is there", () -> group(x, "abcd"));
        Due.ioobe("no object", () -> x.link(9));
        unlink(x, "abcd/a");
        troubleIs("so do exceptions and other calls", x, 2, 5);
        Due.ioobe("level -1", () -> x.trouble(-1, false));
        Due.ioobe("least level", () -> x.trouble(MIN, false));
        Due.is("level 1", -1, x.trouble(1, false));
        Due.is("greatest level", -1, x.trouble(MAX, false));
        Due.says("NONE if there are not so many, or there was none");
        troubleIs("none yet", new ArrayFile());
    }

    /** The group g, its h, and soft links one behind another: a leads to g, b to a, c to b, and so on to f. */
    private static ArrayFile withSofts() {
        ArrayFile x = new ArrayFile();
        group(x, "g");
        group(x, "g/h");
        soft(x, "a>g");
        for (int i = 1; i <= 5; i++) {
            soft(x, letter(i) + ">" + letter(i - 1));
        }
        return x;
    }

    private static void deep() {
        Due.says("3 DEEP, it is a soft link within 4 others (those by which one came to its PATH), the fifth of them");
        ArrayFile x = withSofts();
        for (String good : new String[] {"a", "b", "c", "d"}) {
            Due.is("not deep: " + good, 1, find(x, good));
            Due.is("not deep, on the way: " + good, 2, find(x, good + "/h"));
        }
        Due.is("five", -1, find(x, "e"));
        troubleIs("the fifth", x, 3, 0, 3, 0, 3, 0, 3, 0, 3, 0);
        Due.is("six", -1, find(x, "f/h"));
        troubleIs("the fifth of six", x, 3, 0, 3, 0, 3, 0, 3, 0, 3, 0);
        soft(x, "g/k>g/h");
        soft(x, "h>g/k");
        soft(x, "i>a/a");
        Due.is("the PATH goes on behind a soft link", -1, find(x, "i"));
        troubleIs("there is no g/a", x, 1, 0, 1, 2);
        unlink(x, "e");
        unlink(x, "f");
        soft(x, "e>d/h");
        Due.is("the fifth is not the last NAME of its PATH", -1, find(x, "e"));
        troubleIs("d is within one, a within four", x, 3, 0, 3, 0, 3, 0, 3, 0, 3, 0);
        ArrayFile y = new ArrayFile();
        group(y, "g");
        soft(y, "g/s>g");
        soft(y, "a>g/s/s");
        soft(y, "b>a/s");
        soft(y, "c>b/s");
        Due.is("many in one PATH, within three others", 1, find(y, "c/s/s/s/s/s/s/s"));
        soft(y, "d>c/s");
        Due.is("within four", -1, find(y, "d"));
        troubleIs("at its place", y, 3, 0, 3, 0, 3, 0, 3, 0, 3, 2);
        soft(y, "e>e");
        Due.is("a ring of soft links", -1, find(y, "e"));
        troubleIs("the fifth", y, 3, 0, 3, 0, 3, 0, 3, 0, 3, 0);
        soft(y, "g/r>g/r/r");
        Due.is("a ring that goes on", -1, find(y, "g/r/x"));
        troubleIs("the fifth", y, 3, 2, 3, 2, 3, 2, 3, 2, 3, 2);
        Due.is("then a trouble without cause", -1, find(y, "x"));
        troubleIs("the longer one is forgotten", y, 1, 0);
    }

    private static void causes() {
        Due.says("If a soft link's PATH is in TROUBLE, the soft link is, of the same kind, and that TROUBLE is its cause.");
        ArrayFile x = new ArrayFile();
        group(x, "g");
        array(x, "g/a", 101, 0, 11, 0, 0);
        soft(x, "m>g/no");
        soft(x, "n>g/a/b");
        soft(x, "l>g/a");
        for (int i = 0; i < 3; i++) {
            soft(x, "m" + letter(i) + ">" + (i == 0 ? "m" : "m" + letter(i - 1)));
        }
        Due.is("MISSING", -1, find(x, "m"));
        troubleIs("one cause", x, 1, 0, 1, 2);
        Due.is("MISSING, and not the last one", -1, find(x, "m/x"));
        troubleIs("one cause", x, 1, 0, 1, 2);
        Due.is("NO_GROUP", -1, find(x, "n"));
        troubleIs("one cause", x, 2, 0, 2, 2);
        Due.is("to no group, as the last one", 2, find(x, "l"));
        Due.is("to no group, and not the last one", -1, find(x, "l/b"));
        troubleIs("no cause: its PATH is not in TROUBLE", x, 2, 0);
        Due.is("four soft links, then MISSING", -1, find(x, "mc"));
        troubleIs("four causes", x, 1, 0, 1, 0, 1, 0, 1, 0, 1, 2);
        soft(x, "g/md>mc");
        Due.is("five soft links", -1, find(x, "g/md"));
        troubleIs("DEEP, whatever it leads to", x, 3, 2, 3, 0, 3, 0, 3, 0, 3, 0);
        Due.is("a hard link in the PATH of the fourth", 8, soft(x, "k>g"));
        soft(x, "ka>k");
        soft(x, "kb>ka");
        Due.is("is not deep", 11, soft(x, "kc>kb/a"));
        Due.is("four soft links", 2, find(x, "kc"));
    }

    /** Beside g, a and v: b is a soft link to what is missing, e one in a ring. */
    private static ArrayFile withTroubles() {
        ArrayFile x = inGroups();
        soft(x, "b>no");
        soft(x, "e>e");
        soft(x, "s>g");
        return x;
    }

    private static void troubleOfMakers() {
        Due.says("NONE if the PATH but its last NAME is in TROUBLE, NO_GROUP for its last one of these, too.");
        for (String call : READERS.keySet()) {
            if (call.startsWith("the") || call.equals("find")) {
                continue;
            }
            Reader maker = READERS.get(call);
            ArrayFile x = withTroubles();
            Due.is(call + ", MISSING", -1, maker.go(x, "g/n/n"));
            troubleIs(call, x, 1, 2);
            Due.is(call + ", MISSING, the last one of these", -1, maker.go(x, "g/g/a/n"));
            troubleIs(call + ": a is not in g", x, 1, 4);
            Due.is(call + ", NO_GROUP, an array", -1, maker.go(x, "a/n"));
            troubleIs(call, x, 2, 0);
            Due.is(call + ", NO_GROUP, a view", -1, maker.go(x, "v/n"));
            troubleIs(call, x, 2, 0);
            Due.is(call + ", NO_GROUP, not the last one of these", -1, maker.go(x, "a/n/n"));
            troubleIs(call, x, 2, 0);
            Due.is(call + ", by a soft link", -1, maker.go(x, "b/n"));
            troubleIs(call, x, 1, 0, 1, 0);
            Due.is(call + ", DEEP", -1, maker.go(x, "e/n"));
            troubleIs(call, x, 3, 0, 3, 0, 3, 0, 3, 0, 3, 0);
            Due.is(call + ": no links were made", 6, x.object(0, 2));
            Due.is(call + ": nor in g", 2, x.object(1, 2));
            Due.is(call + ": no objects were made", 5, group(x, "s/n"));
            Due.is(call + ": by a soft link to a group", 5, find(x, "g/n"));
        }
    }

    // ---- the calls

    private static void newObject() {
        Due.says("Only the root; an empty file; the selections are empty.");
        ArrayFile x = new ArrayFile();
        int[] root = {0, 0, 0, 0, 0};
        for (int what = 0; what < 5; what++) {
            Due.is("the root, " + what, root[what], x.object(0, what));
        }
        Due.ioobe("only the root", () -> x.object(1, 0));
        Due.is("no bytes", 0, x.used(false));
        Due.is("one row of free bytes", 1, x.used(true));
        for (int place = 0; place < 1500; place++) {
            Due.is("free", -1, new ArrayFile().fileAt(place));
        }
        Due.is("selection 0", 0, x.clear(0));
        Due.is("selection 1", 0, x.clear(1));
        Due.is("the line", 0, x.type(0));
        troubleIs("no trouble", x);
    }

    private static void unlinks() {
        Due.says("or, MISSING, if that group has no link of its last NAME (what a soft link leads to does not matter)");
        ArrayFile x = withTroubles();
        Due.is("in the root", -1, unlink(x, "z"));
        troubleIs("MISSING", x, 1, 0);
        Due.is("in a group", -1, unlink(x, "g/g/z"));
        troubleIs("MISSING", x, 1, 4);
        Due.is("by a soft link", -1, unlink(x, "s/z"));
        troubleIs("MISSING, without a cause", x, 1, 2);
        Due.is("a soft link to what is missing", 0, unlink(x, "b"));
        Due.is("a soft link in a ring of them", 0, unlink(x, "e"));
        Due.is("a soft link to a group", 0, unlink(x, "s"));
        Due.is("soft links are taken away", 3, x.object(0, 2));
        Due.is("what it led to is there", 1, find(x, "g"));
        Due.says("Takes the link away to which the line, a PATH, goes (a soft one itself).");
        soft(x, "s>g");
        Due.is("a link in a group by a soft link", 1, unlink(x, "s/h"));
        Due.ioobe("its object is gone", () -> x.object(2, 0));
        Due.is("the soft link is there", 1, find(x, "s"));
        Due.is("a link that leads back", 0, unlink(x, "g/g/g"));
        Due.is("the group is empty", 0, x.object(1, 2));
        Due.is("it is linked once", 1, x.object(1, 1));
        Due.is("and goes", 1, unlink(x, "g"));
    }

    private static void linkCounts() {
        Due.says("Returns how many links the group has then");
        ArrayFile x = inGroups();
        for (int i = 1; i <= 12; i++) {
            String line = "g/h/" + letter(i);
            Due.is("hard or soft", i, i % 2 == 0 ? link(x, line, i % 5) : soft(x, line + ">" + letter(i)));
        }
        Due.says("a hard one to an object that there is, or, of NONE, a soft one");
        Due.ise("12", () -> link(x, "g/h/z", 0));
        Due.ise("12, soft", () -> soft(x, "g/h/z>a"));
        Due.is("to the root", 4, link(x, "r", 0));
        Due.is("to the last one", 5, link(x, "w", 4));
        Due.ioobe("to the one behind it", () -> link(x, "u", 5));
        Due.is("the line stays", 1, x.type(0));
        Due.iae("as a soft one the line is not told", () -> x.link(-1));
        Due.is("an array has so many hard links", 2, x.object(3, 1));
    }

    static void all() {
        newObject();
        objects();
        thirtyObjectsAndTrouble();
        links();
        names();
        hardLinks();
        goneLinks();
        rings();
        line();
        signsBehindZero();
        readsTheLine();
        leavesTheLine();
        paths();
        waysOfPaths();
        troubles();
        deep();
        causes();
        troubleOfMakers();
        unlinks();
        linkCounts();
        Due.noSentence();
    }
}
