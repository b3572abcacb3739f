import java.lang.reflect.Constructor;
import java.lang.reflect.Field;
import java.lang.reflect.Member;
import java.lang.reflect.Method;
import java.lang.reflect.Modifier;
import java.util.Arrays;
import java.util.TreeSet;

/** The face is that of the document: nothing of it is missing, and nothing else can be seen. */
public final class FaceTest {
    private static final String[] FACE = {
        "public static final int GraphCompare.NONE",
        "public GraphCompare()",
        "public int GraphCompare.net(int,int) throws IndexOutOfBoundsException,"
            + "IllegalStateException,IllegalArgumentException",
        "public int GraphCompare.device(int,int,double) throws IndexOutOfBoundsException,"
            + "IllegalStateException,IllegalArgumentException",
        "public boolean GraphCompare.pin(int,int,int,int) throws IndexOutOfBoundsException",
        "public boolean GraphCompare.swap(int,int,int) throws IndexOutOfBoundsException",
        "public boolean GraphCompare.share(int,double) throws IndexOutOfBoundsException,"
            + "IllegalArgumentException",
        "public boolean GraphCompare.port(int,int,int) throws IndexOutOfBoundsException,"
            + "IllegalArgumentException",
        "public int GraphCompare.join(int,int) throws IndexOutOfBoundsException,"
            + "IllegalArgumentException",
        "public int GraphCompare.run(long) throws IllegalArgumentException",
        "public int GraphCompare.match(int,int) throws IndexOutOfBoundsException",
        "public int GraphCompare.netMatch(int) throws IndexOutOfBoundsException",
        "public int GraphCompare.differs(int,int) throws IndexOutOfBoundsException",
        "public int GraphCompare.rounds()",
        "public int GraphCompare.tried()",
        "public boolean GraphCompare.tested()",
    };

    private static final TreeSet<String> seen = new TreeSet<>();
    private static final TreeSet<String> publicNames = new TreeSet<>();

    private FaceTest() {
    }

    public static void main(String[] args) {
        Class<?> face = GraphCompare.class;
        Check.same("public and final", Modifier.PUBLIC | Modifier.FINAL, face.getModifiers());
        for (Field field : face.getDeclaredFields()) {
            see(field, field.toGenericString());
        }
        for (Constructor<?> constructor : face.getDeclaredConstructors()) {
            see(constructor, constructor.toGenericString());
        }
        for (Method method : face.getDeclaredMethods()) {
            see(method, method.toGenericString());
        }
        Check.same("the face", new TreeSet<>(Arrays.asList(FACE)), seen);
        lookInside(face);
        Check.finish("FaceTest");
    }

    private static void see(Member member, String text) {
        if (!Modifier.isPrivate(member.getModifiers())) {
            seen.add(text.replace("java.lang.", ""));
            publicNames.add(member.getName());
        }
    }

    private static void lookInside(Class<?> face) {
        Class<?>[] inside = face.getDeclaredClasses();
        Check.same("some twelve classes", true, inside.length < 12);
        for (Method method : face.getDeclaredMethods()) {
            boolean hidden = Modifier.isPrivate(method.getModifiers());
            Check.same(method + " has a name of its own", false,
                hidden && publicNames.contains(method.getName()));
            Check.same(method + " takes few", true, method.getParameterCount() <= 7);
        }
        for (Class<?> one : inside) {
            Check.same(one + " is static and hidden", true,
                Modifier.isStatic(one.getModifiers()) && !Modifier.isPublic(one.getModifiers())
                    && !Modifier.isProtected(one.getModifiers()));
            Check.same(one + " has few fields", true, one.getDeclaredFields().length <= 20);
            for (Method method : one.getDeclaredMethods()) {
                Check.same(method + " takes few", true, method.getParameterCount() <= 7);
            }
        }
    }
}
