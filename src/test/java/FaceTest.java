import java.lang.reflect.Constructor;
import java.lang.reflect.Field;
import java.lang.reflect.Method;
import java.lang.reflect.Modifier;
import java.util.ArrayList;
import java.util.Arrays;
import java.util.Collections;
import java.util.HashSet;
import java.util.List;
import java.util.Set;

/** The public face is the document's, to the word, and nothing more. */
public final class FaceTest {
    private static final String A = " IllegalArgumentException";
    private static final String S = " IllegalStateException";
    private static final String I = " IndexOutOfBoundsException";
    private static final String[] FACE = {
        "int write(int int int int int)" + A + S, "int remove(int)" + I, "int split(int int)" + I + A + S,
        "int transpose(int int int int)" + A + S, "int weigh(int int int int)" + A,
        "int quantise(int int int int int int)" + A, "int copy(int int int)" + A, "int paste(int)" + A + S,
        "int notes()", "int note(int int)" + I + A, "int setTrack(int boolean boolean int int)" + I + A,
        "int setSpeed(int int)" + A + S, "int setMeter(int int int)" + A + S, "int setLoop(int int int)" + A,
        "int openGroup()" + S, "boolean closeGroup()" + S, "int undo()" + S, "int redo()" + S, "int undos()",
        "int redos()", "int timeOf(int)" + A, "int tickOf(int)" + A, "int barOf(int)" + A, "int beatOf(int)" + A,
        "int tickOfBar(int)" + A, "int chordAt(int)" + A, "int clashes()", "int events()",
        "int event(int int)" + I + A, "int sounding(int)" + A, "int most()", "int playedTo()",
        "double meanForce()", "int wouldMove(int int int int)" + A, "int eventsAlone(int)" + I,
        "int bestStep(int int int)" + A, "long digest()"};

    public static void main(String[] args) {
        Class<?> desk = OvertureDesk.class;
        Due.is("public and final", Modifier.PUBLIC | Modifier.FINAL, desk::getModifiers);
        List<String> shown = new ArrayList<>();
        Set<String> names = new HashSet<>();
        for (Method method : desk.getDeclaredMethods()) {
            if (!Modifier.isPrivate(method.getModifiers())) {
                shown.add(told(method));
                names.add(method.getName());
            }
        }
        List<String> face = new ArrayList<>(Arrays.asList(FACE));
        Collections.sort(face);
        Collections.sort(shown);
        Due.is("face", face, () -> shown);
        for (Method method : desk.getDeclaredMethods()) {
            boolean isClear = !Modifier.isPrivate(method.getModifiers()) || !names.contains(method.getName());
            Due.is("name of " + method.getName(), true, () -> isClear);
            Due.is("parameters of " + method.getName(), true, () -> method.getParameterCount() <= 7);
        }
        Constructor<?>[] constructors = desk.getDeclaredConstructors();
        Due.is("constructors", 1, () -> constructors.length);
        Due.is("constructor", Modifier.PUBLIC, () -> constructors[0].getModifiers());
        Due.is("constructor", 0, () -> constructors[0].getParameterCount());
        fields(desk);
        Class<?>[] inside = desk.getDeclaredClasses();
        Due.is("at most some twelve classes", true, () -> inside.length + 1 <= 12);
        for (Class<?> one : inside) {
            Due.is(one.getName(), true, () -> Modifier.isStatic(one.getModifiers())
                    && !Modifier.isPublic(one.getModifiers()) && !Modifier.isProtected(one.getModifiers()));
            staticFieldsAreFinal(one);
        }
        Due.end("FaceTest");
    }

    private static String told(Method method) {
        StringBuilder text = new StringBuilder(method.getReturnType().getName());
        text.append(' ').append(method.getName()).append('(');
        for (int i = 0; i < method.getParameterCount(); i++) {
            text.append(i > 0 ? " " : "").append(method.getParameterTypes()[i].getName());
        }
        text.append(')');
        for (Class<?> thrown : method.getExceptionTypes()) {
            text.append(' ').append(thrown.getSimpleName());
        }
        return text.toString();
    }

    private static void fields(Class<?> desk) {
        for (Field field : desk.getDeclaredFields()) {
            Due.is(field.getName(), true, () -> Modifier.isPrivate(field.getModifiers()));
        }
        staticFieldsAreFinal(desk);
    }

    private static void staticFieldsAreFinal(Class<?> one) {
        for (Field field : one.getDeclaredFields()) {
            int is = field.getModifiers();
            Due.is(one.getName() + "." + field.getName(), true, () -> !Modifier.isStatic(is) || Modifier.isFinal(is));
        }
    }
}
