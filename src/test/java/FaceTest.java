import java.lang.reflect.Constructor;
import java.lang.reflect.Field;
import java.lang.reflect.Member;
import java.lang.reflect.Method;
import java.lang.reflect.Modifier;
import java.util.ArrayList;
import java.util.HashSet;
import java.util.List;
import java.util.Set;
import java.util.TreeSet;

/** The public face, and no member beside it that others can see; promise 1's constant. */
public final class FaceTest {
    private static final String ARGUMENT = " throws java.lang.IllegalArgumentException";
    private static final String STATE = ",java.lang.IllegalStateException";
    private static final String INDEX = ",java.lang.IndexOutOfBoundsException";
    private static final String ELEMENT = " throws java.util.NoSuchElementException";
    private static final Set<String> FACE = Set.of(
            "public RingPipeline(int)",
            "public static final int RingPipeline.NONE",
            "public int RingPipeline.consumer(int,int,int,int)" + ARGUMENT + STATE,
            "public long RingPipeline.claim(int,int)" + ARGUMENT + STATE,
            "public boolean RingPipeline.publish(int,long,long)" + ELEMENT,
            "public int RingPipeline.run(int,int)" + ARGUMENT + STATE,
            "public long RingPipeline.place(int)" + ARGUMENT,
            "public long RingPipeline.total(int)" + ARGUMENT,
            "public float RingPipeline.level(int)" + ARGUMENT,
            "public double RingPipeline.mean(int)" + ARGUMENT,
            "public int RingPipeline.octet(int,int)" + ARGUMENT + INDEX,
            "public int RingPipeline.tear(int,int)" + ARGUMENT,
            "public int RingPipeline.replay(int)" + ARGUMENT,
            "public long RingPipeline.replayed()",
            "public int RingPipeline.count(int,int)" + ARGUMENT,
            "public long RingPipeline.state(int,long)" + ARGUMENT);

    public static void main(String[] args) {
        Class<?> face = RingPipeline.class;
        Due.due("the class is public and final", Modifier.PUBLIC | Modifier.FINAL, face::getModifiers);
        Due.due("the face", new TreeSet<>(FACE), () -> visible(face));
        Due.due("NONE", -1, () -> RingPipeline.NONE);
        for (Class<?> inside : face.getDeclaredClasses()) {
            int modifiers = inside.getModifiers();
            Due.due(inside + " is static", true, () -> Modifier.isStatic(modifiers));
            Due.due(inside + " is not seen", false,
                    () -> Modifier.isPublic(modifiers) || Modifier.isProtected(modifiers));
        }
        Due.due("names of the face used inside", Set.of(), () -> namesUsedTwice(face));
        Due.finish();
    }

    private static Set<String> visible(Class<?> face) {
        List<Member> members = new ArrayList<>();
        members.addAll(List.of(face.getDeclaredConstructors()));
        members.addAll(List.of(face.getDeclaredMethods()));
        members.addAll(List.of(face.getDeclaredFields()));
        Set<String> seen = new TreeSet<>();
        for (Member member : members) {
            if (!Modifier.isPrivate(member.getModifiers())) {
                seen.add(text(member));
            }
        }
        return seen;
    }

    private static String text(Member member) {
        if (member instanceof Method method) {
            return method.toString();
        }
        return member instanceof Field field ? field.toString() : ((Constructor<?>) member).toString();
    }

    private static Set<String> namesUsedTwice(Class<?> face) {
        Set<String> names = new HashSet<>();
        for (Method method : face.getMethods()) {
            if (method.getDeclaringClass() == face) {
                names.add(method.getName());
            }
        }
        Set<String> twice = new TreeSet<>();
        for (Method method : face.getDeclaredMethods()) {
            if (Modifier.isPrivate(method.getModifiers()) && names.contains(method.getName())) {
                twice.add(method.getName());
            }
        }
        for (Class<?> inside : face.getDeclaredClasses()) {
            for (Method method : inside.getDeclaredMethods()) {
                if (names.contains(method.getName())) {
                    twice.add(inside.getName() + "." + method.getName());
                }
            }
        }
        return twice;
    }
}
