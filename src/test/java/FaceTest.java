import java.lang.reflect.Constructor;
import java.lang.reflect.Field;
import java.lang.reflect.Member;
import java.lang.reflect.Method;
import java.lang.reflect.Modifier;
import java.util.Set;
import java.util.TreeSet;

/** The public face: what the document shows, and no other member that is not private. */
final class FaceTest {
    private static final Check CHECK = new Check("FaceTest");

    public static void main(String[] args) {
        Class<BitNumbers> face = BitNumbers.class;
        CHECK.due("the class's modifiers", Modifier.toString(face.getModifiers()), "public final");
        CHECK.due("its members", new TreeSet<>(members(face)), new TreeSet<>(Set.of(
            "public BitNumbers()",
            "public int BitNumbers.push(int,long)",
            "public long BitNumbers.pop() throws java.lang.IllegalStateException",
            "public int BitNumbers.apply(int) throws java.lang.IllegalArgumentException,"
                + "java.lang.IllegalStateException,java.lang.UnsupportedOperationException",
            "public int BitNumbers.trap()",
            "public int BitNumbers.operator(int,int)",
            "public int BitNumbers.type(int)",
            "public long BitNumbers.bits(int)",
            "public int BitNumbers.parts(int,int)",
            "public int BitNumbers.copy(int)",
            "public int BitNumbers.clear()")));
        for (Class<?> inside : face.getDeclaredClasses()) {
            CHECK.due(inside + " is static", Modifier.isStatic(inside.getModifiers()), true);
            CHECK.due(inside + " is public", Modifier.isPublic(inside.getModifiers()), false);
        }
        CHECK.end();
    }

    private static Set<String> members(Class<?> face) {
        Set<String> members = new TreeSet<>();
        for (Constructor<?> constructor : face.getDeclaredConstructors()) {
            add(members, constructor, constructor.toString());
        }
        for (Method method : face.getDeclaredMethods()) {
            add(members, method, method.toString());
        }
        for (Field field : face.getDeclaredFields()) {
            add(members, field, field.toString());
        }
        return members;
    }

    private static void add(Set<String> members, Member member, String text) {
        if (!Modifier.isPrivate(member.getModifiers()) && !member.isSynthetic()) {
            members.add(text);
        }
    }
}
