import java.io.IOException;
import java.lang.reflect.Constructor;
import java.lang.reflect.Field;
import java.lang.reflect.Method;
import java.lang.reflect.Modifier;
import java.nio.file.Files;
import java.nio.file.Path;
import java.util.ArrayList;
import java.util.Arrays;
import java.util.List;
import java.util.Set;
import java.util.TreeSet;

/**
 * The face of the class is the document's and no more, and what can be seen of the rules of the language from outside
 * is kept. The argument is the path of the source.
 */
public final class FaceTests {
    private static final String[] FACE = {
        "int type(char) IllegalArgumentException IllegalStateException",
        "int clear()",
        "int fault()",
        "int term() UnsupportedOperationException IllegalStateException",
        "int number(int) IllegalArgumentException IllegalStateException",
        "int apply(int,int) IndexOutOfBoundsException UnsupportedOperationException IllegalStateException",
        "int abstraction(int,char) IndexOutOfBoundsException IllegalArgumentException UnsupportedOperationException"
            + " IllegalStateException",
        "int put(int,char,int) IndexOutOfBoundsException IllegalArgumentException UnsupportedOperationException"
            + " IllegalStateException",
        "int copy(int,int) IndexOutOfBoundsException",
        "int size(int) IndexOutOfBoundsException",
        "int places(int,char) IndexOutOfBoundsException IllegalArgumentException",
        "boolean isClosed(int) IndexOutOfBoundsException",
        "boolean areSame(int,int) IndexOutOfBoundsException",
        "char signAt(int,int) IndexOutOfBoundsException NoSuchElementException",
        "int numberOf(int) IndexOutOfBoundsException NoSuchElementException",
        "int redexes(int) IndexOutOfBoundsException",
        "int redexAt(int,int) IndexOutOfBoundsException NoSuchElementException",
        "int contract(int,int) IndexOutOfBoundsException NoSuchElementException UnsupportedOperationException",
        "int residuals(int,int,int) IndexOutOfBoundsException NoSuchElementException UnsupportedOperationException",
        "boolean joins(int,int,int) IndexOutOfBoundsException NoSuchElementException UnsupportedOperationException",
        "boolean step(int,char) IndexOutOfBoundsException IllegalArgumentException UnsupportedOperationException",
        "boolean isNormal(int,char) IndexOutOfBoundsException IllegalArgumentException",
        "int reduce(int,char,int) IndexOutOfBoundsException IllegalArgumentException UnsupportedOperationException",
        "char best(int) IndexOutOfBoundsException NoSuchElementException",
        "int eta(int) IndexOutOfBoundsException",
        "boolean isSolved(int) IndexOutOfBoundsException",
        "int treeSigns(int,int) IndexOutOfBoundsException IllegalArgumentException UnsupportedOperationException",
        "char treeAt(int,int,int) IndexOutOfBoundsException IllegalArgumentException UnsupportedOperationException"
            + " NoSuchElementException",
        "int unlikeAt(int,int,int) IndexOutOfBoundsException IllegalArgumentException UnsupportedOperationException"
            + " NoSuchElementException",
        "int separated(int,int) IndexOutOfBoundsException UnsupportedOperationException NoSuchElementException",
        "boolean hasType(int) IndexOutOfBoundsException",
        "char typeAt(int,int) IndexOutOfBoundsException UnsupportedOperationException NoSuchElementException",
        "int arguments(int) IndexOutOfBoundsException UnsupportedOperationException",
        "int combinators(int) IndexOutOfBoundsException UnsupportedOperationException",
        "char combinatorAt(int,int) IndexOutOfBoundsException UnsupportedOperationException NoSuchElementException",
        "int betas(int,boolean) IndexOutOfBoundsException UnsupportedOperationException",
        "int headArguments(int) IndexOutOfBoundsException UnsupportedOperationException",
        "long checksum()",
        "int terms()",
        "float normalShare() ArithmeticException",
        "double meanSize() ArithmeticException",
        "boolean isSound()",
    };

    private static final String[] NOT_IN_THE_SOURCE = {"->", "::", "catch", "finally", "synchronized", "assert ",
        "import java.util.*", "System.", "Math.", "Random", "Thread", "getMessage", "instanceof", "hashCode", "equals("};

    private static int wrong;

    private static void due(boolean isRight, String what) {
        if (!isRight) {
            wrong++;
            System.out.println(what);
        }
    }

    private static String faceOf(Method method) {
        List<String> parameters = new ArrayList<>();
        for (Class<?> parameter : method.getParameterTypes()) {
            parameters.add(parameter.getName());
        }
        StringBuilder face = new StringBuilder(method.getReturnType().getName()).append(' ').append(method.getName())
                .append('(').append(String.join(",", parameters)).append(')');
        for (Class<?> thrown : method.getExceptionTypes()) {
            face.append(' ').append(thrown.getSimpleName());
        }
        return face.toString();
    }

    private static void checkFace() {
        Set<String> told = new TreeSet<>(Arrays.asList(FACE));
        Set<String> found = new TreeSet<>();
        for (Method method : Boehmgarth.class.getDeclaredMethods()) {
            if (Modifier.isPublic(method.getModifiers())) {
                found.add(faceOf(method));
            } else {
                due(Modifier.isPrivate(method.getModifiers()), "not private: " + method);
            }
        }
        due(told.equals(found), "the face is " + found + ", due is " + told);
        Constructor<?>[] constructors = Boehmgarth.class.getDeclaredConstructors();
        due(constructors.length == 1 && constructors[0].getParameterCount() == 0
                && Modifier.isPublic(constructors[0].getModifiers()), "the constructor is not the document's");
        due(Modifier.isFinal(Boehmgarth.class.getModifiers()), "the class is not final");
        for (Field field : Boehmgarth.class.getDeclaredFields()) {
            due(Modifier.isPrivate(field.getModifiers()), "not private: " + field);
        }
    }

    private static void checkClasses() {
        Set<String> faceNames = new TreeSet<>();
        for (String method : FACE) {
            faceNames.add(method.substring(method.indexOf(' ') + 1, method.indexOf('(')));
        }
        List<Class<?>> classes = new ArrayList<>(Arrays.asList(Boehmgarth.class.getDeclaredClasses()));
        due(classes.size() <= 12, "too many classes: " + classes.size());
        classes.add(Boehmgarth.class);
        for (Class<?> each : classes) {
            int modifiers = each.getModifiers();
            due(each == Boehmgarth.class || Modifier.isStatic(modifiers) && !Modifier.isPublic(modifiers),
                    "not static or not hidden: " + each);
            int fields = 0;
            for (Field field : each.getDeclaredFields()) {
                due(!Modifier.isStatic(field.getModifiers())
                        || Modifier.isFinal(field.getModifiers()) && field.getType().isPrimitive(), "static state: " + field);
                fields += Modifier.isStatic(field.getModifiers()) ? 0 : 1;
            }
            due(fields <= 20, "too many fields: " + each);
            for (Method method : each.getDeclaredMethods()) {
                due(method.getParameterCount() <= 7, "too many parameters: " + method);
                due(!Modifier.isPrivate(method.getModifiers()) || !faceNames.contains(method.getName()),
                        "bears a name of the face: " + method);
            }
        }
    }

    private static void checkSource(List<String> lines) {
        int start = -1;
        for (int i = 0; i < lines.size(); i++) {
            String line = lines.get(i);
            due(line.length() <= 120, "too long a line: " + (i + 1));
            due(line.chars().allMatch(c -> c >= 32 && c < 127), "another sign than plain ones: " + (i + 1));
            due(!line.startsWith("import ") || line.equals("import java.util.NoSuchElementException;"), line);
            for (String banned : NOT_IN_THE_SOURCE) {
                due(!line.contains(banned), "line " + (i + 1) + " holds " + banned);
            }
            if (line.matches(" {4}( {4})?[a-zA-Z].*\\(.*") && !line.contains(";") && !line.contains("class ")) {
                start = i;
            }
            if (line.matches(" {4}( {4})?\\}") && start >= 0) {
                due(i - start <= 60, "too long a method at line " + (start + 1));
            }
        }
    }

    public static void main(String[] args) throws IOException {
        checkFace();
        checkClasses();
        checkSource(Files.readAllLines(Path.of(args[0])));
        System.out.println(wrong == 0 ? "the face and the rules are kept" : wrong + " faults of the face or the rules");
        if (wrong != 0) {
            System.exit(1);
        }
    }
}
