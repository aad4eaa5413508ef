import java.lang.reflect.Constructor;
import java.lang.reflect.Field;
import java.lang.reflect.Method;
import java.lang.reflect.Modifier;
import java.util.Arrays;
import java.util.NoSuchElementException;
import java.util.TreeSet;

/** The public face of the document and rule 1 of LANGUAGE.md. */
public final class FaceTest {
    private static final String[] FACE = {
        "feed(int,int,int,int,int)", "end(int)", "building()", "place()", "card()", "pass(int,int,boolean,int)",
        "gap(int,int,int)", "sight(int,int,int)", "right(int,int,int,int,boolean)", "rooms(int,int,int)",
        "way(int,int,int,int)", "broken(int,int)", "many(int,int,int,int)", "inside(int,int,int)",
        "allowed(int,int,int)", "odd(int,int)", "pairs(int,int,int,int)", "log(int,int)", "door(int,int)",
        "wide(int)", "count(int)"};

    public static void main(String[] args) throws Exception {
        Class<?> face = DoorReader.class;
        Check.due("NONE", -1, DoorReader.NONE);
        Check.holds("public and final", Modifier.isPublic(face.getModifiers()) && Modifier.isFinal(face.getModifiers()));
        TreeSet<String> due = new TreeSet<>(Arrays.asList(FACE));
        TreeSet<String> names = new TreeSet<>();
        TreeSet<String> got = new TreeSet<>();
        for (Method method : face.getDeclaredMethods()) {
            if (Modifier.isPrivate(method.getModifiers())) {
                continue;
            }
            Check.holds(method + " is public and answers an int",
                    Modifier.isPublic(method.getModifiers()) && method.getReturnType() == int.class);
            String types = Arrays.toString(method.getParameterTypes()).replaceAll("[\\[\\] ]", "");
            got.add(method.getName() + "(" + types + ")");
            names.add(method.getName());
        }
        Check.holds("the methods of the face: " + got, got.equals(due));
        Class<?>[] thrown = face.getMethod("way", int.class, int.class, int.class, int.class).getExceptionTypes();
        Check.holds("way tells what it throws", thrown.length == 1 && thrown[0] == NoSuchElementException.class);
        for (Method method : face.getDeclaredMethods()) {
            Check.holds(method + " bears no public name",
                    !Modifier.isPrivate(method.getModifiers()) || !names.contains(method.getName()));
        }
        for (Field field : face.getDeclaredFields()) {
            boolean isNone = field.getName().equals("NONE") && Modifier.isPublic(field.getModifiers());
            Check.holds(field + " is private or NONE", isNone || Modifier.isPrivate(field.getModifiers()));
            Check.holds(field + " is final if static",
                    !Modifier.isStatic(field.getModifiers()) || Modifier.isFinal(field.getModifiers()));
        }
        Constructor<?>[] makers = face.getDeclaredConstructors();
        Check.holds("one public constructor without arguments", makers.length == 1
                && Modifier.isPublic(makers[0].getModifiers()) && makers[0].getParameterCount() == 0);
        inner(face, names);
        Check.finish("FaceTest");
    }

    private static void inner(Class<?> face, TreeSet<String> names) {
        Class<?>[] classes = face.getDeclaredClasses();
        Check.holds("at most twelve classes", classes.length + 1 <= 12);
        for (Class<?> inner : classes) {
            int is = inner.getModifiers();
            Check.holds(inner + " is static and not of the face",
                    Modifier.isStatic(is) && !Modifier.isPublic(is) && !Modifier.isProtected(is));
            long fields = Arrays.stream(inner.getDeclaredFields()).filter(f -> !Modifier.isStatic(f.getModifiers())).count();
            Check.holds(inner + " has at most twenty fields beside its constants", fields <= 20);
            for (Method method : inner.getDeclaredMethods()) {
                Check.holds(method + " bears no public name",
                        !Modifier.isPrivate(method.getModifiers()) || !names.contains(method.getName()));
                Check.holds(method + " has at most seven parameters", method.getParameterCount() <= 7);
            }
        }
    }
}
