import java.lang.reflect.Constructor;
import java.lang.reflect.Field;
import java.lang.reflect.Member;
import java.lang.reflect.Method;
import java.lang.reflect.Modifier;
import java.nio.file.Files;
import java.nio.file.Path;
import java.util.ArrayList;
import java.util.List;
import java.util.Set;
import java.util.TreeSet;

/** The public face, and what of ../shared/LANGUAGE.md can be seen from the class and its text. */
public final class LanguageTest {
    private static final String[] FACE = {
        "int append(int,int,int,int,int)",
        "int parse(int) IllegalArgument",
        "int errorPosition()",
        "int size(int) IllegalArgument",
        "int find()",
        "int program(int,int) IndexOutOfBounds IllegalArgument",
        "int told(int,int) IndexOutOfBounds IllegalArgument",
        "int picture(int) IndexOutOfBounds",
        "int notice(int,int) IndexOutOfBounds",
        "int habit(int) IndexOutOfBounds",
        "int promise(int) IndexOutOfBounds",
        "int followed(int,int) IndexOutOfBounds",
        "int likeliest(int) IndexOutOfBounds",
        "int victim(int) IllegalArgument",
        "int freed(int) IllegalArgument",
        "int waitOf(int) IndexOutOfBounds",
        "int whyNotShow(int) IndexOutOfBounds",
        "int trimsFor(int) IndexOutOfBounds",
        "int stateAfter(int,int) IndexOutOfBounds",
        "int waitsFor(int,int,int,int) IndexOutOfBounds IllegalArgument",
        "int log(int,int) IllegalArgument",
        "int account(int) IllegalArgument",
        "int show(int) IndexOutOfBounds IllegalState",
        "int home()",
        "int pass(int) IllegalArgument",
        "int touch(int) IllegalArgument IllegalState",
        "int send(int,int) IndexOutOfBounds IllegalArgument",
        "int read() IllegalState",
        "boolean pin(int,boolean) IndexOutOfBounds",
        "int trim(int) IllegalArgument IllegalState",
        "int close(int) IndexOutOfBounds IllegalState",
        "int setLimit(int) IllegalArgument IllegalState",
        "int setPolicy(int) IllegalArgument",
        "int undo()",
        "boolean saveSnapshot(int) IndexOutOfBounds",
        "int restoreSnapshot(int) IndexOutOfBounds IllegalState"
    };
    private static final String[] NOT_ALLOWED = {"finally", "synchronized", "assert", "->", "::", "import java.io",
        "import java.util.function", "catch", "String.format", "System.out", "Math.random", "package ", "equals(Object",
        "hashCode", "toString("};

    public static void main(String[] args) throws Exception {
        face();
        names();
        statics();
        text();
        Check.end("LanguageTest");
    }

    private static String signature(Method method) {
        StringBuilder text = new StringBuilder(method.getReturnType().getSimpleName());
        text.append(' ').append(method.getName()).append('(');
        for (Class<?> type : method.getParameterTypes()) {
            text.append(text.charAt(text.length() - 1) == '(' ? "" : ",").append(type.getSimpleName());
        }
        text.append(')');
        for (Class<?> type : method.getExceptionTypes()) {
            text.append(' ').append(type.getSimpleName().replace("Exception", ""));
        }
        return text.toString();
    }

    private static boolean isPrivate(Member member) {
        return Modifier.isPrivate(member.getModifiers());
    }

    private static void face() {
        Set<String> methods = new TreeSet<>();
        for (Method method : PhoneMemory.class.getDeclaredMethods()) {
            if (!isPrivate(method)) {
                methods.add(signature(method));
                Check.equal("public " + method, true, Modifier.isPublic(method.getModifiers()));
                Check.equal("static " + method, false, Modifier.isStatic(method.getModifiers()));
            }
        }
        Check.equal("methods of the face", true, methods.equals(new TreeSet<>(List.of(FACE))));
        for (Field field : PhoneMemory.class.getDeclaredFields()) {
            Check.equal("field " + field, !field.getName().equals("NONE"), isPrivate(field));
        }
        Constructor<?>[] constructors = PhoneMemory.class.getDeclaredConstructors();
        Check.equal("constructors", 1, constructors.length);
        Check.equal("public constructor", true, Modifier.isPublic(constructors[0].getModifiers()));
        Check.equal("final class", true, Modifier.isFinal(PhoneMemory.class.getModifiers()));
    }

    private static void names() {
        List<String> names = new ArrayList<>();
        for (String method : FACE) {
            names.add(method.substring(method.indexOf(' ') + 1, method.indexOf('(')));
        }
        for (Method method : PhoneMemory.class.getDeclaredMethods()) {
            Check.equal("name of " + method, false, isPrivate(method) && names.contains(method.getName()));
        }
        for (Class<?> inside : PhoneMemory.class.getDeclaredClasses()) {
            for (Method method : inside.getDeclaredMethods()) {
                Check.equal("name of " + method, false, names.contains(method.getName()));
                Check.equal("parameters of " + method, true, method.getParameterCount() <= 7);
            }
        }
    }

    private static void statics() {
        List<Class<?>> classes = new ArrayList<>(List.of(PhoneMemory.class.getDeclaredClasses()));
        classes.add(PhoneMemory.class);
        Check.equal("some twelve classes", true, classes.size() <= 12);
        for (Class<?> type : classes) {
            int fields = 0;
            for (Field field : type.getDeclaredFields()) {
                if (Modifier.isStatic(field.getModifiers())) {
                    Check.equal("final " + field, true, Modifier.isFinal(field.getModifiers()));
                    Check.equal("constant " + field, true, field.getType() == int.class);
                } else {
                    fields++;
                }
            }
            Check.equal("some twenty fields of " + type, true, fields <= 20);
        }
    }

    private static void text() throws Exception {
        String text = Files.readString(Path.of("src/main/java/PhoneMemory.java"));
        for (String piece : NOT_ALLOWED) {
            Check.equal("text with " + piece, -1, text.indexOf(piece));
        }
        String[] lines = text.split("\n");
        int begin = 0;
        for (int i = 0; i < lines.length; i++) {
            if (lines[i].startsWith("import ")) {
                Check.equal("line " + lines[i], true, lines[i].equals("import java.util.Arrays;"));
            }
            if (lines[i].matches(" {4,8}[a-z].*\\) \\{")) {
                begin = i;
            }
            if (lines[i].matches(" {4,8}\\}")) {
                Check.equal("some sixty lines to line " + (i + 1), true, begin == 0 || i - begin < 60);
                begin = 0;
            }
        }
    }
}
