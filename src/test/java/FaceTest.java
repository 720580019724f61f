import java.lang.reflect.Constructor;
import java.lang.reflect.Field;
import java.lang.reflect.Member;
import java.lang.reflect.Method;
import java.lang.reflect.Modifier;
import java.util.Arrays;
import java.util.Set;
import java.util.TreeSet;

/** The public face: what the document tells, and nothing more that could be seen from outside. */
public final class FaceTest {
    private static final Set<String> METHODS = Set.of("bars(int)", "shortest(int)", "bar(int,int,int)", "repeat(int,int)",
            "cut(int,int)", "blackout(int,int)", "undoSpan(int,int)", "title(int,int,int,int)", "drop(int)", "ofBar(int,int)",
            "sung(int,int)", "ofTitle(int,int)", "showing(int,int)", "at(int)", "count(int)", "cutIf(int,int,int)",
            "slowest(int)", "put(long)", "wipe()", "fault()", "carryOut()", "undo()", "save(int)", "restore(int)");
    private static final Set<String> CONSTANTS = Set.of("NO_SUCH=-1", "BAD_VALUE=-2", "BAD_TEXT=-3", "TOO_MANY=-4",
            "NOT_POSSIBLE=-5", "NONE=-6", "LINE=0", "EACH=1", "NOTE=2");

    public static void main(String[] args) throws IllegalAccessException {
        int classModifiers = TitleCaller.class.getModifiers();
        Check.holds("the class is public and final", Modifier.isPublic(classModifiers) && Modifier.isFinal(classModifiers));
        Check.due("constructors", TitleCaller.class.getDeclaredConstructors().length, 1);
        for (Constructor<?> made : TitleCaller.class.getDeclaredConstructors()) {
            Check.holds("the constructor is public, without arguments", isPublic(made) && made.getParameterCount() == 0);
        }
        checkMethods();
        checkFields();
        checkClassesInside();
        Check.finish("FaceTest");
    }

    private static boolean isPublic(Member member) {
        return Modifier.isPublic(member.getModifiers());
    }

    private static void checkMethods() {
        Set<String> found = new TreeSet<>();
        for (Method method : TitleCaller.class.getDeclaredMethods()) {
            if (Modifier.isPrivate(method.getModifiers()) || method.isSynthetic()) {
                Check.holds("no public name for private " + method.getName(), !isPublicName(method));
                continue;
            }
            String types = Arrays.toString(method.getParameterTypes()).replaceAll("[\\[\\] ]", "");
            found.add(method.getName() + "(" + types + ")");
            Check.holds(method + " is public and answers an int", isPublic(method) && method.getReturnType() == int.class);
        }
        Check.holds("methods " + found, found.equals(METHODS));
    }

    private static boolean isPublicName(Method method) {
        return METHODS.stream().anyMatch(face -> face.startsWith(method.getName() + "("));
    }

    private static void checkFields() throws IllegalAccessException {
        Set<String> found = new TreeSet<>();
        for (Field field : TitleCaller.class.getDeclaredFields()) {
            int modifiers = field.getModifiers();
            if (Modifier.isPrivate(modifiers)) {
                continue;
            }
            Check.holds(field + " is a public constant", isPublic(field) && Modifier.isStatic(modifiers) && Modifier.isFinal(modifiers));
            found.add(field.getName() + "=" + field.get(null));
        }
        Check.holds("constants " + found, found.equals(CONSTANTS));
    }

    private static void checkClassesInside() {
        for (Class<?> inside : TitleCaller.class.getDeclaredClasses()) {
            int modifiers = inside.getModifiers();
            Check.holds(inside + " is static, and not to be seen", Modifier.isStatic(modifiers) && Modifier.isPrivate(modifiers));
            for (Method method : inside.getDeclaredMethods()) {
                Check.holds("no public name for " + method, !isPublicName(method));
            }
        }
    }
}
