import java.lang.reflect.Constructor;
import java.lang.reflect.Field;
import java.lang.reflect.Member;
import java.lang.reflect.Method;
import java.lang.reflect.Modifier;
import java.util.ArrayList;
import java.util.Arrays;
import java.util.Collections;
import java.util.List;

/** "The public face": what stands there is there, and nothing else can be seen. */
public final class FaceTest {
    private static final String[] METHODS = {
        "int append(int) throws IllegalArgumentException, IllegalStateException",
        "int clearText()",
        "int errorPosition()",
        "int load() throws IllegalStateException",
        "int about(int) throws IllegalArgumentException",
        "int tileOf(int, int) throws IndexOutOfBoundsException, IllegalArgumentException",
        "int laid(int, int) throws IndexOutOfBoundsException, IllegalArgumentException",
        "int playerOf(int, int) throws IndexOutOfBoundsException, IllegalArgumentException",
        "int at(int, int) throws IndexOutOfBoundsException",
        "int free(int) throws IllegalArgumentException",
        "int deal(int, long) throws IllegalArgumentException",
        "int play(int, boolean) throws IndexOutOfBoundsException, IllegalStateException",
        "int draw() throws IllegalStateException",
        "int pass() throws IllegalStateException",
        "int undo() throws IllegalStateException",
        "int why(int) throws IndexOutOfBoundsException",
        "int legal()",
        "int best()",
        "int chain(int, int) throws IndexOutOfBoundsException, IllegalArgumentException",
        "int reach(int) throws IllegalArgumentException",
        "int runScript(int, long) throws IllegalArgumentException",
        "int simulate(long, int) throws IllegalArgumentException",
        "int save(int) throws IndexOutOfBoundsException",
        "int restore(int) throws IndexOutOfBoundsException, IllegalStateException"};

    private FaceTest() {
    }

    private static String names(Class<?>[] types) {
        List<String> names = new ArrayList<>();
        for (Class<?> type : types) {
            names.add(type.getSimpleName());
        }
        return String.join(", ", names);
    }

    private static String told(Method method) {
        String thrown = names(method.getExceptionTypes());
        return method.getReturnType().getSimpleName() + " " + method.getName() + "(" + names(method.getParameterTypes())
            + ")" + (thrown.isEmpty() ? "" : " throws " + thrown);
    }

    private static boolean isSeen(Member member) {
        return !Modifier.isPrivate(member.getModifiers()) && !member.isSynthetic();
    }

    private static void theClassIsPublicAndFinal() {
        int modifiers = SpiralDominoes.class.getModifiers();
        Check.due("public (1: yes)", Modifier.isPublic(modifiers) ? 1 : 0, 1);
        Check.due("final (1: yes)", Modifier.isFinal(modifiers) ? 1 : 0, 1);
    }

    private static void theMethodsOfTheFaceAndNoOthers() {
        List<String> got = new ArrayList<>();
        for (Method method : SpiralDominoes.class.getDeclaredMethods()) {
            if (isSeen(method)) {
                got.add(told(method));
                Check.due(method.getName() + ": public, of an object", method.getModifiers(), Modifier.PUBLIC);
            }
        }
        List<String> want = new ArrayList<>(Arrays.asList(METHODS));
        Collections.sort(got);
        Collections.sort(want);
        Check.same("the methods", got.toString(), want.toString());
    }

    private static void oneConstructorWithoutArguments() {
        Constructor<?>[] all = SpiralDominoes.class.getDeclaredConstructors();
        Check.due("constructors", all.length, 1);
        Check.due("its arguments", all[0].getParameterCount(), 0);
        Check.due("its exceptions", all[0].getExceptionTypes().length, 0);
        Check.due("public", all[0].getModifiers(), Modifier.PUBLIC);
    }

    // "NONE = -1: There is no such result."
    private static void theConstants() {
        Check.due("NONE", SpiralDominoes.NONE, -1);
        List<String> got = new ArrayList<>();
        for (Field field : SpiralDominoes.class.getDeclaredFields()) {
            if (isSeen(field)) {
                got.add(Modifier.toString(field.getModifiers()) + " " + field.getType() + " " + field.getName());
            }
        }
        Check.same("the constants", got.toString(), "[public static final int NONE]");
    }

    public static void main(String[] args) {
        theClassIsPublicAndFinal();
        theMethodsOfTheFaceAndNoOthers();
        oneConstructorWithoutArguments();
        theConstants();
        Check.end();
    }
}
