import java.lang.reflect.Field;
import java.lang.reflect.Member;
import java.lang.reflect.Method;
import java.lang.reflect.Modifier;
import java.util.Arrays;
import java.util.Set;
import java.util.TreeSet;

/** The face is just what the document tells, and no private method bears the name of a public one. */
final class FaceTests {
    private static final Set<String> CALLS = new TreeSet<>(Arrays.asList("int array(int,int,int,int,int) AS",
            "int bad(int,int,int) B", "int clear(int) B", "int copy(int,int) BAS", "int fileAt(int) B", "int find() A",
            "int group() AS", "int link(int) BAS", "int map(int,int) BAS", "int object(int,int) BA", "int plain(int,int,int) B",
            "int read(int,int,int) BS", "int resize(int,int) BAS", "int slab(int,int,int,int,int) BA",
            "int spoil(int,int,int,int) B", "int trouble(int,boolean) B", "int type(long) AS", "int unlink() A",
            "int used(boolean)", "int view(int,int) AS", "int write(int,int,int,int) BAS"));

    private FaceTests() {
    }

    /** The throws clause: B IndexOutOfBounds, A IllegalArgument, S IllegalState. */
    private static String thrown(Method method) {
        StringBuilder all = new StringBuilder();
        for (Class<?> one : method.getExceptionTypes()) {
            all.append(one == IndexOutOfBoundsException.class ? 'B' : one == IllegalArgumentException.class ? 'A' : 'S');
        }
        return all.toString();
    }

    static void all() {
        Class<?> face = ArrayFile.class;
        Due.is("public final class", 1, Modifier.isPublic(face.getModifiers())
                && Modifier.isFinal(face.getModifiers()) ? 1 : 0);
        Due.is("one constructor", 1, face.getDeclaredConstructors().length);
        Set<String> calls = new TreeSet<>();
        Set<String> publicNames = new TreeSet<>();
        for (Method method : face.getDeclaredMethods()) {
            if (Modifier.isPublic(method.getModifiers())) {
                String parameters = Arrays.toString(Arrays.stream(method.getParameterTypes()).map(Class::getName)
                        .toArray()).replaceAll("[\\[\\] ]", "");
                calls.add((method.getReturnType() + " " + method.getName() + "(" + parameters + ") "
                        + thrown(method)).trim());
                publicNames.add(method.getName());
            }
        }
        Due.is("the calls are those of the document", 1, calls.equals(CALLS) ? 1 : 0);
        for (Method method : face.getDeclaredMethods()) {
            checkHidden(method, publicNames);
        }
        for (Field field : face.getDeclaredFields()) {
            boolean isConstant = Set.of("NONE", "MISSING", "NO_GROUP", "DEEP").contains(field.getName());
            Due.is("field " + field.getName(), isConstant ? Modifier.PUBLIC : Modifier.PRIVATE,
                    field.getModifiers() & (Modifier.PUBLIC | Modifier.PRIVATE | Modifier.PROTECTED));
        }
        for (Class<?> inside : face.getDeclaredClasses()) {
            Due.is("class " + inside.getName(), 1, Modifier.isStatic(inside.getModifiers())
                    && !Modifier.isPublic(inside.getModifiers()) ? 1 : 0);
            for (Method method : inside.getDeclaredMethods()) {
                Due.is("name of " + method, 0, publicNames.contains(method.getName()) ? 1 : 0);
            }
        }
        Due.is("NONE", -1, ArrayFile.NONE);
        Due.is("MISSING", 1, ArrayFile.MISSING);
        Due.is("NO_GROUP", 2, ArrayFile.NO_GROUP);
        Due.is("DEEP", 3, ArrayFile.DEEP);
    }

    private static void checkHidden(Member method, Set<String> publicNames) {
        boolean isPublic = Modifier.isPublic(method.getModifiers());
        boolean isPrivate = Modifier.isPrivate(method.getModifiers());
        Due.is("access of " + method, 1, isPublic || isPrivate ? 1 : 0);
        if (isPrivate) {
            Due.is("name of " + method, 0, publicNames.contains(method.getName()) ? 1 : 0);
        }
    }
}
