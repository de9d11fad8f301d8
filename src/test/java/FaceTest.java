import java.lang.reflect.Constructor;
import java.lang.reflect.Field;
import java.lang.reflect.Method;
import java.lang.reflect.Modifier;
import java.util.Set;
import java.util.TreeSet;

/** The public face of the document, and that the class shows nothing else. */
final class FaceTest {
    private static final String[] FACE = {
        "int setFrameLength(int)",
        "int setChannel(int,int,int,int)",
        "int setClock(int,int)",
        "int addPacket(int,int,int,int)",
        "int queue(int,int)",
        "int nextChannel()",
        "int send(int)",
        "int slot()",
        "int sent(int,int)",
        "int wire()",
        "int frameByte(int,int)",
        "int corrupt(int,int,int)",
        "int repair(int)",
        "int lose(int)",
        "int receive(int)",
        "int count(int)",
        "int received(int,int)",
        "int application(int,int)",
        "int packets()",
        "int packet(int,int)",
        "int packetByte(int,int)",
        "long clock()",
        "int timePairs()",
        "long groundTime(long)",
        "int undo()",
        "long digest()",
    };

    private FaceTest() {
    }

    public static void main(String[] args) {
        classAndConstructor();
        fields();
        methods();
        namesOfPrivateMethods();
        Check.end();
    }

    private static void classAndConstructor() {
        int modifiers = TelemetryLink.class.getModifiers();
        Check.same("public final class", modifiers, Modifier.PUBLIC | Modifier.FINAL);
        Constructor<?>[] all = TelemetryLink.class.getDeclaredConstructors();
        Check.same("constructors", all.length, 1);
        Check.same("public constructor", all[0].getModifiers(), Modifier.PUBLIC);
        Check.same("its parameters", all[0].getParameterCount(), 0);
        Check.same("NONE", TelemetryLink.NONE, -1);
    }

    private static void fields() {
        for (Field field : TelemetryLink.class.getDeclaredFields()) {
            if (field.isSynthetic()) {
                continue;
            }
            boolean isPublic = field.getName().equals("NONE");
            int due = isPublic ? Modifier.PUBLIC : Modifier.PRIVATE;
            int access = Modifier.PUBLIC | Modifier.PROTECTED | Modifier.PRIVATE;
            Check.same("access of " + field.getName(), field.getModifiers() & access, due);
        }
    }

    private static void methods() {
        Set<String> open = new TreeSet<>();
        for (Method method : TelemetryLink.class.getDeclaredMethods()) {
            if (!Modifier.isPrivate(method.getModifiers()) && !method.isSynthetic()) {
                open.add(textOf(method));
                Check.same("public " + method.getName(), method.getModifiers(), Modifier.PUBLIC);
            }
        }
        Check.same("open methods", open.size(), FACE.length);
        for (String method : FACE) {
            Check.same(method, open.contains(method) ? 1 : 0, 1);
        }
    }

    private static String textOf(Method method) {
        StringBuilder text = new StringBuilder();
        text.append(method.getReturnType().getName()).append(' ').append(method.getName()).append('(');
        for (Class<?> type : method.getParameterTypes()) {
            if (text.charAt(text.length() - 1) != '(') {
                text.append(',');
            }
            text.append(type.getName());
        }
        return text.append(')').toString();
    }

    /** Rule 1 of LANGUAGE.md: "No private method bears the name of a public one." */
    private static void namesOfPrivateMethods() {
        Set<String> names = new TreeSet<>();
        for (String method : FACE) {
            names.add(method.substring(method.indexOf(' ') + 1, method.indexOf('(')));
        }
        for (Method method : TelemetryLink.class.getDeclaredMethods()) {
            if (Modifier.isPrivate(method.getModifiers()) && !method.isSynthetic()) {
                Check.same("a private method has a name of the face: " + method.getName(),
                        names.contains(method.getName()) ? 1 : 0, 0);
            }
        }
    }
}
