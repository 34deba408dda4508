import java.lang.reflect.Constructor;
import java.lang.reflect.Field;
import java.lang.reflect.Method;
import java.lang.reflect.Modifier;
import java.util.ArrayList;
import java.util.Collections;
import java.util.List;

/** The class shows the document's face and nothing else. */
public final class FaceTest {
    private static final String[] FACE = {
        "void days(int) IndexOutOfBoundsException",
        "int person(int,int) IndexOutOfBoundsException UnsupportedOperationException",
        "void need(int,int,int,int) IllegalArgumentException IndexOutOfBoundsException",
        "void rules(int,int,int) IndexOutOfBoundsException",
        "void bar(int,int,int,boolean) IllegalArgumentException",
        "int wish(int,int,int,boolean,int) IllegalArgumentException IndexOutOfBoundsException"
            + " IllegalStateException UnsupportedOperationException",
        "void freeze(int) IndexOutOfBoundsException",
        "void set(int,int,int) IllegalArgumentException IllegalStateException",
        "int solve(int) IndexOutOfBoundsException",
        "int solved(int) IllegalArgumentException",
        "void swap(int,int,int) IllegalArgumentException IllegalStateException",
        "int shift(int,int) IllegalArgumentException",
        "int wrong()",
        "int unmet()",
        "int cost()",
        "int share(int) IllegalArgumentException ArithmeticException",
        "int publish()",
        "int count(int) IllegalArgumentException",
    };

    private FaceTest() {
    }

    public static void main(String[] args) {
        Check check = new Check();
        int modifiers = RosterSolve.class.getModifiers();
        check.due("public and final", Modifier.isPublic(modifiers) && Modifier.isFinal(modifiers) ? 1 : 0, 1);
        checkMethods(check);
        checkHidden(check);
        check.end("FaceTest");
    }

    private static void checkMethods(Check check) {
        List<String> shown = new ArrayList<>();
        List<String> publicNames = new ArrayList<>();
        for (Method method : RosterSolve.class.getDeclaredMethods()) {
            if (!Modifier.isPrivate(method.getModifiers())) {
                shown.add(told(method));
                publicNames.add(method.getName());
            }
        }
        List<String> wanted = new ArrayList<>(List.of(FACE));
        Collections.sort(shown);
        Collections.sort(wanted);
        check.due("the methods", shown.toString(), wanted.toString());
        for (Method method : RosterSolve.class.getDeclaredMethods()) {
            boolean both = Modifier.isPrivate(method.getModifiers()) && publicNames.contains(method.getName());
            check.due("a private method with a public one's name: " + method.getName(), both ? 1 : 0, 0);
        }
    }

    private static String told(Method method) {
        StringBuilder text = new StringBuilder();
        text.append(method.getReturnType().getSimpleName()).append(' ').append(method.getName()).append('(');
        String comma = "";
        for (Class<?> type : method.getParameterTypes()) {
            text.append(comma).append(type.getSimpleName());
            comma = ",";
        }
        text.append(')');
        for (Class<?> type : method.getExceptionTypes()) {
            text.append(' ').append(type.getSimpleName());
        }
        return text.toString();
    }

    private static void checkHidden(Check check) {
        for (Field field : RosterSolve.class.getDeclaredFields()) {
            check.due("private " + field.getName(), Modifier.isPrivate(field.getModifiers()) ? 1 : 0, 1);
        }
        Constructor<?>[] constructors = RosterSolve.class.getDeclaredConstructors();
        check.due("constructors", constructors.length, 1);
        check.due("the constructor's parameters", constructors[0].getParameterCount(), 0);
        check.due("a public constructor", Modifier.isPublic(constructors[0].getModifiers()) ? 1 : 0, 1);
    }
}
