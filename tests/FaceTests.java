import java.lang.reflect.Field;
import java.lang.reflect.Member;
import java.lang.reflect.Method;
import java.lang.reflect.Modifier;
import java.util.Arrays;
import java.util.Set;
import java.util.TreeSet;

/** The face is just what the document tells, and no private method bears the name of a public one. */
final class FaceTests {
    private static final Set<String> CALLS = new TreeSet<>(Arrays.asList("int array(int,int,int,int,int)",
            "int bad(int,int,int)", "int clear(int)", "int copy(int,int)", "int fileAt(int)", "int find()",
            "int group()", "int link(int)", "int map(int,int)", "int object(int,int)", "int plain(int,int,int)",
            "int read(int,int,int)", "int resize(int,int)", "int slab(int,int,int,int,int)",
            "int spoil(int,int,int,int)", "int trouble(int,boolean)", "int type(long)", "int unlink()",
            "int used(boolean)", "int view(int,int)", "int write(int,int,int,int)"));

    private FaceTests() {
    }

    static void all() {
        Class<?> face = ArrayFile.class;
        Due.is("public final class", 1, Modifier.isPublic(face.getModifiers())
                && Modifier.isFinal(face.getModifiers()) ? 1 : 0);
        Due.is("one constructor", 1, face.getDeclaredConstructors().length);
        Set<String> calls = new TreeSet<>();
        Set<String> publicNames = new TreeSet<>();
        for (Method method : face.getDeclaredMethods()) {
            if (Modifier.isPublic(method.getModifiers())) {
                String parameters = Arrays.toString(Arrays.stream(method.getParameterTypes()).map(Class::getName)
                        .toArray()).replaceAll("[\\[\\] ]", "");
                calls.add(method.getReturnType() + " " + method.getName() + "(" + parameters + ")");
                publicNames.add(method.getName());
            }
        }
        Due.is("the calls are those of the document", 1, calls.equals(CALLS) ? 1 : 0);
        for (Method method : face.getDeclaredMethods()) {
            checkHidden(method, publicNames);
        }
        for (Field field : face.getDeclaredFields()) {
            boolean isConstant = Set.of("NONE", "MISSING", "NO_GROUP", "DEEP").contains(field.getName());
            Due.is("field " + field.getName(), isConstant ? Modifier.PUBLIC : Modifier.PRIVATE,
                    field.getModifiers() & (Modifier.PUBLIC | Modifier.PRIVATE | Modifier.PROTECTED));
        }
        for (Class<?> inside : face.getDeclaredClasses()) {
            Due.is("class " + inside.getName(), 1, Modifier.isStatic(inside.getModifiers())
                    && !Modifier.isPublic(inside.getModifiers()) ? 1 : 0);
            for (Method method : inside.getDeclaredMethods()) {
                Due.is("name of " + method, 0, publicNames.contains(method.getName()) ? 1 : 0);
            }
        }
        Due.is("NONE", -1, ArrayFile.NONE);
        Due.is("MISSING", 1, ArrayFile.MISSING);
        Due.is("NO_GROUP", 2, ArrayFile.NO_GROUP);
        Due.is("DEEP", 3, ArrayFile.DEEP);
    }

    private static void checkHidden(Member method, Set<String> publicNames) {
        boolean isPublic = Modifier.isPublic(method.getModifiers());
        boolean isPrivate = Modifier.isPrivate(method.getModifiers());
        Due.is("access of " + method, 1, isPublic || isPrivate ? 1 : 0);
        if (isPrivate) {
            Due.is("name of " + method, 0, publicNames.contains(method.getName()) ? 1 : 0);
        }
    }
}
