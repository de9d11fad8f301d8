import java.lang.reflect.Constructor;
import java.lang.reflect.Field;
import java.lang.reflect.Method;
import java.lang.reflect.Modifier;
import java.util.Set;
import java.util.TreeSet;

/** The public face of the document, and that the class shows nothing else. */
final class FaceTest {
    private static final String INDEX = "IndexOutOfBoundsException";
    private static final String ARGUMENT = "IllegalArgumentException";
    private static final String STATE = "IllegalStateException";

    /** Each method with the exceptions that it names, in their order. */
    private static final String[] FACE = {
        "int setFrameLength(int) throws " + ARGUMENT + ", " + STATE,
        "int setChannel(int,int,int,int) throws " + INDEX + ", " + ARGUMENT,
        "int setClock(int,int) throws " + ARGUMENT,
        "int addPacket(int,int,int,int) throws " + INDEX + ", " + ARGUMENT + ", " + STATE,
        "int queue(int,int) throws " + INDEX + ", " + ARGUMENT,
        "int nextChannel()",
        "int send(int) throws " + ARGUMENT + ", " + STATE,
        "int slot()",
        "int sent(int,int) throws " + INDEX + ", " + ARGUMENT,
        "int wire()",
        "int frameByte(int,int) throws " + INDEX,
        "int corrupt(int,int,int) throws " + INDEX + ", " + ARGUMENT,
        "int repair(int) throws " + INDEX,
        "int lose(int) throws " + INDEX,
        "int receive(int) throws " + ARGUMENT + ", " + STATE,
        "int count(int) throws " + ARGUMENT,
        "int received(int,int) throws " + INDEX + ", " + ARGUMENT,
        "int application(int,int) throws " + INDEX + ", " + ARGUMENT,
        "int packets()",
        "int packet(int,int) throws " + INDEX + ", " + ARGUMENT,
        "int packetByte(int,int) throws " + INDEX,
        "long clock()",
        "int timePairs()",
        "long groundTime(long) throws " + ARGUMENT + ", " + STATE,
        "int undo() throws " + STATE,
        "long digest()",
    };

    private FaceTest() {
    }

    public static void main(String[] args) throws IllegalAccessException {
        classAndConstructor();
        none();
        fields();
        classesInside();
        methods();
        namesOfPrivateMethods();
        Check.end();
    }

    private static void classAndConstructor() {
        int modifiers = TelemetryLink.class.getModifiers();
        Check.same("public final class", modifiers, Modifier.PUBLIC | Modifier.FINAL);
        Check.same("no package", TelemetryLink.class.getPackageName().length(), 0);
        Constructor<?>[] all = TelemetryLink.class.getDeclaredConstructors();
        Check.same("constructors", all.length, 1);
        Check.same("public constructor", all[0].getModifiers(), Modifier.PUBLIC);
        Check.same("its parameters", all[0].getParameterCount(), 0);
        Check.same("its exceptions", all[0].getExceptionTypes().length, 0);
    }

    /** "public static final int NONE = -1;" */
    private static void none() throws IllegalAccessException {
        int constants = 0;
        for (Field field : TelemetryLink.class.getFields()) {
            constants++;
            Check.same("name of " + field, field.getName().equals("NONE") ? 1 : 0, 1);
            Check.same("type of " + field, field.getType() == int.class ? 1 : 0, 1);
            Check.same("modifiers of " + field, field.getModifiers(),
                    Modifier.PUBLIC | Modifier.STATIC | Modifier.FINAL);
            Check.same("value of " + field, field.getInt(null), -1);
        }
        Check.same("constants", constants, 1);
    }

    private static void fields() {
        for (Field field : TelemetryLink.class.getDeclaredFields()) {
            if (field.isSynthetic()) {
                continue;
            }
            boolean isPublic = field.getName().equals("NONE");
            int due = isPublic ? Modifier.PUBLIC : Modifier.PRIVATE;
            int access = Modifier.PUBLIC | Modifier.PROTECTED | Modifier.PRIVATE;
            Check.same("access of " + field.getName(), field.getModifiers() & access, due);
        }
    }

    /** Rule 1 of LANGUAGE.md: they are "private or package-visible and static". */
    private static void classesInside() {
        for (Class<?> inside : TelemetryLink.class.getDeclaredClasses()) {
            int modifiers = inside.getModifiers();
            Check.same("open: " + inside, modifiers & (Modifier.PUBLIC | Modifier.PROTECTED), 0);
            Check.same("static: " + inside, modifiers & Modifier.STATIC, Modifier.STATIC);
        }
    }

    private static void methods() {
        Set<String> open = new TreeSet<>();
        for (Method method : TelemetryLink.class.getDeclaredMethods()) {
            if (!Modifier.isPrivate(method.getModifiers()) && !method.isSynthetic()) {
                open.add(textOf(method));
                Check.same("public " + method.getName(), method.getModifiers(), Modifier.PUBLIC);
            }
        }
        Check.same("open methods", open.size(), FACE.length);
        for (String method : FACE) {
            Check.same(method, open.contains(method) ? 1 : 0, 1);
        }
    }

    private static String textOf(Method method) {
        StringBuilder text = new StringBuilder();
        text.append(method.getReturnType().getName()).append(' ').append(method.getName()).append('(');
        for (Class<?> type : method.getParameterTypes()) {
            if (text.charAt(text.length() - 1) != '(') {
                text.append(',');
            }
            text.append(type.getName());
        }
        text.append(')');
        String before = " throws ";
        for (Class<?> type : method.getExceptionTypes()) {
            text.append(before).append(type.getSimpleName());
            before = ", ";
        }
        return text.toString();
    }

    /** Rule 1 of LANGUAGE.md: "No private method bears the name of a public one." */
    private static void namesOfPrivateMethods() {
        Set<String> names = new TreeSet<>();
        for (String method : FACE) {
            names.add(method.substring(method.indexOf(' ') + 1, method.indexOf('(')));
        }
        for (Method method : TelemetryLink.class.getDeclaredMethods()) {
            if (Modifier.isPrivate(method.getModifiers()) && !method.isSynthetic()) {
                Check.same("a private method has a name of the face: " + method.getName(),
                        names.contains(method.getName()) ? 1 : 0, 0);
            }
        }
    }
}
