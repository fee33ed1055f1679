import java.io.IOException;
import java.lang.reflect.Constructor;
import java.lang.reflect.Field;
import java.lang.reflect.Method;
import java.lang.reflect.Modifier;
import java.nio.file.Files;
import java.nio.file.Path;
import java.util.ArrayList;
import java.util.Arrays;
import java.util.Collections;
import java.util.List;

/** The face: just the members that the document prints, and the rules of LANGUAGE.md on members and classes. */
public final class FaceTest {
    private static final Checks CHECKS = new Checks("FaceTest");
    private static final String I = "IndexOutOfBoundsException";
    private static final String IA = I + " IllegalArgumentException";
    private static final String IS = I + " IllegalStateException";
    private static final String IAS = IA + " IllegalStateException";

    private static final String[] FACE = {
        "int step 3 " + IAS, "int upgrade 2 " + IAS, "int submit 9 " + IAS, "int claim 6 " + IAS, "int pool 1 " + I,
        "int make 4 " + IAS, "int head 1 " + I, "int base 2 " + I, "int used 2 " + I, "int transactionAt 3 " + I,
        "int eventAt 3 " + I, "int bloom 2 " + I, "int find 2 " + IA, "int coins 3 " + IS, "int codeOf 3 " + IS,
        "int slot 4 " + IS, "int burned 2 " + IS, "int root 2 " + I, "int rootAnew 2 " + I, "int leaf 3 " + IS,
        "int proof 4 " + IS, "boolean proves 8 " + IA, "int prune 1 " + I, "boolean vote 4 " + IAS,
        "boolean isJustified 2 " + I, "int lastFinal 1 " + I, "int stake 2 " + I};

    private static final String[] CONSTANTS = {"NONE", "PUSH", "ADD", "SUB", "MUL", "IS_LESS", "IS_SAME", "DOUBLE", "SWAP", "DROP",
        "READ", "WRITE", "JUMP", "JUMP_IF_ZERO", "CALLER", "VALUE", "INPUT", "COINS", "PUT", "GET", "CALL", "LOG", "MAKE", "END",
        "FAIL", "STOP"};

    public static void main(String[] args) throws ReflectiveOperationException, IOException {
        CHECKS.yes("public", Modifier.isPublic(ForkBridge.class.getModifiers()));
        CHECKS.yes("final", Modifier.isFinal(ForkBridge.class.getModifiers()));
        methods();
        constants();
        constructors();
        innerClasses();
        printedFace();
        CHECKS.end();
    }

    private static void methods() {
        List<String> found = new ArrayList<>();
        List<String> names = new ArrayList<>();
        for (Method m : ForkBridge.class.getDeclaredMethods()) {
            if (Modifier.isPublic(m.getModifiers())) {
                StringBuilder line = new StringBuilder(m.getReturnType() + " " + m.getName() + " " + m.getParameterCount());
                for (Class<?> e : m.getExceptionTypes()) {
                    line.append(' ').append(e.getSimpleName());
                }
                found.add(line.toString());
                names.add(m.getName());
            }
        }
        List<String> due = new ArrayList<>(Arrays.asList(FACE));
        Collections.sort(due);
        Collections.sort(found);
        CHECKS.yes("face " + found, found.equals(due));
        for (Method m : ForkBridge.class.getDeclaredMethods()) {
            if (!Modifier.isPublic(m.getModifiers())) {
                CHECKS.yes("private " + m.getName(), Modifier.isPrivate(m.getModifiers()));
                CHECKS.no("a public one's name: " + m.getName(), names.contains(m.getName()));
                CHECKS.yes("parameters of " + m.getName(), m.getParameterCount() <= 7);
            }
        }
    }

    /** Each line of the document's face stands in the class as it is printed, names of arguments and all. */
    private static void printedFace() throws IOException {
        if (!Document.isAtHand()) {
            return;
        }
        List<String> source = new ArrayList<>();
        for (String line : Files.readAllLines(Path.of("src/main/java/ForkBridge.java"))) {
            source.add(line.strip());
        }
        List<String> face = Document.linesOfFace();
        CHECKS.same("lines of the face", face.size(), FACE.length + 4);
        for (String line : face) {
            boolean body = line.endsWith(");") || line.endsWith("Exception;");
            CHECKS.yes("the class has " + line, source.contains(body ? line.substring(0, line.length() - 1) + " {" : line));
        }
    }

    private static void constants() throws ReflectiveOperationException {
        for (int n = 0; n < CONSTANTS.length; n++) {
            Field field = ForkBridge.class.getField(CONSTANTS[n]);
            CHECKS.same(CONSTANTS[n], field.getInt(null), n - 1);
        }
        CHECKS.same("public fields", ForkBridge.class.getFields().length, CONSTANTS.length);
        for (Field f : ForkBridge.class.getDeclaredFields()) {
            boolean constant = Modifier.isStatic(f.getModifiers()) && Modifier.isFinal(f.getModifiers());
            CHECKS.yes("field " + f.getName(), Modifier.isPublic(f.getModifiers()) ? constant : Modifier.isPrivate(f.getModifiers()));
            CHECKS.yes("static field " + f.getName(), constant || !Modifier.isStatic(f.getModifiers()));
        }
    }

    private static void constructors() {
        Constructor<?>[] all = ForkBridge.class.getDeclaredConstructors();
        CHECKS.same("constructors", all.length, 1);
        CHECKS.yes("public", Modifier.isPublic(all[0].getModifiers()) && all[0].getParameterCount() == 0);
    }

    private static void innerClasses() {
        Class<?>[] all = ForkBridge.class.getDeclaredClasses();
        CHECKS.yes("some twelve classes", all.length < 12);
        for (Class<?> c : all) {
            CHECKS.yes("static " + c, Modifier.isStatic(c.getModifiers()) && !Modifier.isPublic(c.getModifiers()) && !Modifier.isProtected(c.getModifiers()));
            int fields = 0;
            for (Field f : c.getDeclaredFields()) {
                fields += Modifier.isStatic(f.getModifiers()) ? 0 : 1;
            }
            CHECKS.yes("fields of " + c, fields <= 20);
            for (Method m : c.getDeclaredMethods()) {
                CHECKS.yes("parameters of " + m, m.getParameterCount() <= 7);
            }
        }
    }
}
