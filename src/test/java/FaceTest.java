import java.lang.reflect.Constructor;
import java.lang.reflect.Field;
import java.lang.reflect.Method;
import java.lang.reflect.Modifier;
import java.util.ArrayList;
import java.util.Arrays;
import java.util.List;

/** The public face: just the members of the document, with just the exceptions that they may throw. */
public final class FaceTest {
    private static final String[] FACE = {
        "int addRoom(int, int, int) IllegalArgumentException IllegalStateException",
        "int addServant(int) IllegalArgumentException IllegalStateException",
        "boolean ring(int) IndexOutOfBoundsException",
        "int cross(int, int) IndexOutOfBoundsException IllegalArgumentException",
        "int cut(int) IndexOutOfBoundsException IllegalStateException",
        "int mend(int) IndexOutOfBoundsException IllegalStateException",
        "int recharge(int) IllegalArgumentException",
        "int putUp(int) IndexOutOfBoundsException IllegalStateException",
        "int pass(int) IllegalArgumentException",
        "int minute()", "int rooms()", "int servants()", "int charge()",
        "int served()", "int inVain()", "int gaveUp()", "int unheard()",
        "int dropOf(int) IndexOutOfBoundsException",
        "int roomOf(int) IndexOutOfBoundsException",
        "boolean isCut(int) IndexOutOfBoundsException",
        "int waitedFor(int) IndexOutOfBoundsException",
        "int longestWaiting()", "int crossed()", "int crossingsNeeded()", "int fallen()",
        "boolean hasFallen(int) IndexOutOfBoundsException",
        "int placeInLine(int) IndexOutOfBoundsException",
        "int nextDrop()",
        "int ringsLeft(int) IndexOutOfBoundsException",
        "int floorOf(int) IndexOutOfBoundsException",
        "int goesTo(int) IndexOutOfBoundsException",
        "int serves(int) IndexOutOfBoundsException",
        "int minutesLeft(int) IndexOutOfBoundsException",
        "int wayTo(int, int) IndexOutOfBoundsException",
        "int nearestIdle(int) IndexOutOfBoundsException",
        "int minutesUntilServed(int) IndexOutOfBoundsException",
        "int servedIn(int) IllegalArgumentException",
        "int bestToCross(int) IndexOutOfBoundsException",
        "double meanWait()",
        "long digest()"};

    public static void main(String[] args) {
        Check.due("class is public and final",
                HouseBells.class.getModifiers() & (Modifier.PUBLIC | Modifier.FINAL), Modifier.PUBLIC | Modifier.FINAL);
        Constructor<?>[] constructors = HouseBells.class.getDeclaredConstructors();
        Check.due("constructors", constructors.length, 1);
        Check.due("constructor", constructors[0].toGenericString(), "public HouseBells()");
        methods();
        for (Field field : HouseBells.class.getDeclaredFields()) {
            Check.due("private field " + field.getName(), Modifier.isPrivate(field.getModifiers()), true);
        }
        for (Class<?> inside : HouseBells.class.getDeclaredClasses()) {
            Check.due("static class " + inside.getName(), Modifier.isStatic(inside.getModifiers()), true);
            Check.due("no public class " + inside.getName(), Modifier.isPublic(inside.getModifiers()), false);
        }
        Check.finish("FaceTest");
    }

    private static void methods() {
        List<String> due = new ArrayList<>(Arrays.asList(FACE));
        List<String> names = new ArrayList<>();
        for (String line : FACE) {
            names.add(line.substring(line.indexOf(' ') + 1, line.indexOf('(')));
        }
        for (Method method : HouseBells.class.getDeclaredMethods()) {
            if (Modifier.isPrivate(method.getModifiers())) {
                Check.due("private method with a face's name " + method.getName(),
                        names.contains(method.getName()), false);
            } else {
                Check.due("public method " + method.getName(), Modifier.isPublic(method.getModifiers()), true);
                Check.due("of the face: " + describe(method), due.remove(describe(method)), true);
            }
        }
        Check.due("missing methods", due.toString(), "[]");
    }

    private static String describe(Method method) {
        StringBuilder text = new StringBuilder();
        text.append(method.getReturnType().getSimpleName()).append(' ').append(method.getName()).append('(');
        for (int i = 0; i < method.getParameterCount(); i++) {
            text.append(i == 0 ? "" : ", ").append(method.getParameterTypes()[i].getSimpleName());
        }
        text.append(')');
        for (Class<?> exception : method.getExceptionTypes()) {
            text.append(' ').append(exception.getSimpleName());
        }
        return text.toString();
    }
}
