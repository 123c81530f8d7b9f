import java.lang.reflect.Constructor;
import java.lang.reflect.Field;
import java.lang.reflect.Method;
import java.lang.reflect.Modifier;
import java.util.Arrays;
import java.util.Set;
import java.util.TreeSet;

/** The public face is the document's, and nothing beside it can be seen from outside the class. */
public final class FaceTest {
    private static final Set<String> FACE = new TreeSet<>(Arrays.asList(
            "public static final int NONE",
            "public HangOrder()",
            "public boolean link(int,int) throws IllegalArgumentException,IllegalStateException",
            "public boolean unlink(int,int) throws IllegalArgumentException",
            "public int clear(int) throws IllegalArgumentException",
            "public void touch(int) throws IllegalArgumentException",
            "public int work()",
            "public int worked(int)",
            "public int found()",
            "public boolean ringed(int)",
            "public int links(int,int)",
            "public boolean touched(int)"));

    public static void main(String[] args) {
        Set<String> seen = new TreeSet<>();
        Set<String> publicNames = new TreeSet<>();
        for (Field field : HangOrder.class.getDeclaredFields()) {
            addIfSeen(seen, field.getModifiers(), field.toGenericString());
        }
        for (Constructor<?> made : HangOrder.class.getDeclaredConstructors()) {
            addIfSeen(seen, made.getModifiers(), made.toGenericString());
        }
        for (Method method : HangOrder.class.getDeclaredMethods()) {
            addIfSeen(seen, method.getModifiers(), method.toGenericString());
            if (Modifier.isPublic(method.getModifiers())) {
                publicNames.add(method.getName());
            }
        }
        if (!seen.equals(FACE)) {
            System.out.println("the face is " + seen + ", due is " + FACE);
        }
        Check.same("the face is the document's", seen.equals(FACE), true);
        Check.same("the class is public and final",
                HangOrder.class.getModifiers(), Modifier.PUBLIC | Modifier.FINAL);
        for (Method method : HangOrder.class.getDeclaredMethods()) {
            if (Modifier.isPrivate(method.getModifiers())) {
                Check.same("private " + method.getName() + " bears a public name",
                        publicNames.contains(method.getName()), false);
            }
        }
        classesInside();
        Check.end();
    }

    private static void classesInside() {
        Check.same("interfaces of the class", HangOrder.class.getInterfaces().length, 0);
        Check.same("it extends Object alone", HangOrder.class.getSuperclass() == Object.class, true);
        for (Class<?> inside : HangOrder.class.getDeclaredClasses()) {
            int seen = inside.getModifiers() & (Modifier.PUBLIC | Modifier.PROTECTED);
            Check.same(inside.getName() + " is public or protected", seen, 0);
            Check.same(inside.getName() + " is static",
                    Modifier.isStatic(inside.getModifiers()), true);
        }
    }

    private static void addIfSeen(Set<String> seen, int modifiers, String member) {
        if (!Modifier.isPrivate(modifiers)) {
            seen.add(member.replace("HangOrder.", "").replace("java.lang.", ""));
        }
    }
}
