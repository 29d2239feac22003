import java.io.IOException;
import java.lang.reflect.Constructor;
import java.lang.reflect.Executable;
import java.lang.reflect.Field;
import java.lang.reflect.Method;
import java.lang.reflect.Modifier;
import java.nio.file.Files;
import java.nio.file.Path;
import java.util.HashSet;
import java.util.Set;
import java.util.TreeSet;

/** The public face of the document and the rules of LANGUAGE.md that can be seen from outside. */
public final class FaceTest {
    private static final Checks CHECKS = new Checks();
    private static final String[] FACE = {
        "int paint(int,int,int,int,int,int) IllegalArgumentException",
        "int shade(int,int,int) IllegalArgumentException",
        "void setPart(int,int,int,int,int) IllegalArgumentException",
        "void setMask(int,int,int,int,int) IllegalArgumentException IllegalStateException",
        "boolean approve(int,int) IllegalArgumentException",
        "int begin(int) IllegalArgumentException",
        "int join(int) IllegalArgumentException",
        "boolean isApproved(int,int) IllegalArgumentException",
        "int differences(int,int,int) IllegalArgumentException IllegalStateException",
        "int firstDifference(int,int,int) IllegalArgumentException IllegalStateException",
        "int move(int,int,int) IllegalArgumentException IllegalStateException",
        "int soft(int,int,int) IllegalArgumentException IllegalStateException",
        "boolean run(int,int,int) IllegalArgumentException IllegalStateException",
        "int runs(int) IllegalArgumentException",
        "int doubt(int) IllegalArgumentException",
    };
    private static final String[] RULED_OUT = {
        "import ", "package ", "try ", "catch ", "finally ", "synchronized ", "assert ", "->", "::",
        "instanceof ", "@", "Exact(", "System.out", "Random", "Thread",
    };

    public static void main(String[] args) throws IOException {
        theFaceIsTheDocuments();
        nothingElseIsToBeSeen();
        theSourceHasNoneOfWhatIsRuledOut();
        CHECKS.end("FaceTest");
    }

    private static void theFaceIsTheDocuments() {
        Set<String> due = new TreeSet<>(Set.of(FACE));
        Set<String> got = new TreeSet<>();
        for (Method method : PictureProof.class.getDeclaredMethods()) {
            if (Modifier.isPublic(method.getModifiers())) {
                got.add(told(method));
            }
        }
        CHECKS.same("the public methods", got.toString(), due.toString());
        int flags = PictureProof.class.getModifiers();
        CHECKS.same("the class is public", Modifier.isPublic(flags), true);
        CHECKS.same("the class is final", Modifier.isFinal(flags), true);
        Constructor<?>[] constructors = PictureProof.class.getDeclaredConstructors();
        CHECKS.same("constructors", constructors.length, 1);
        CHECKS.same("its arguments", constructors[0].getParameterCount(), 0);
        CHECKS.same("it is public", Modifier.isPublic(constructors[0].getModifiers()), true);
    }

    private static String told(Method method) {
        StringBuilder text = new StringBuilder();
        text.append(method.getReturnType().getSimpleName()).append(' ').append(method.getName()).append('(');
        String comma = "";
        for (Class<?> type : method.getParameterTypes()) {
            text.append(comma).append(type.getSimpleName());
            comma = ",";
        }
        text.append(')');
        Set<String> thrown = new TreeSet<>();
        for (Class<?> type : method.getExceptionTypes()) {
            thrown.add(type.getSimpleName());
        }
        for (String name : thrown) {
            text.append(' ').append(name);
        }
        return text.toString();
    }

    private static void nothingElseIsToBeSeen() {
        Set<String> publicNames = new HashSet<>();
        for (Method method : PictureProof.class.getDeclaredMethods()) {
            if (Modifier.isPublic(method.getModifiers())) {
                publicNames.add(method.getName());
            }
        }
        for (Method method : PictureProof.class.getDeclaredMethods()) {
            boolean own = Modifier.isPrivate(method.getModifiers());
            CHECKS.same(method.getName() + " is of the face or private", own != Modifier.isPublic(method.getModifiers()), true);
            CHECKS.same(method.getName() + " has its own name", own && publicNames.contains(method.getName()), false);
            fewParameters(method);
        }
        fields(PictureProof.class);
        for (Class<?> inside : PictureProof.class.getDeclaredClasses()) {
            CHECKS.same(inside.getName() + " is static", Modifier.isStatic(inside.getModifiers()), true);
            CHECKS.same(inside.getName() + " is not public", Modifier.isPublic(inside.getModifiers()), false);
            fields(inside);
            for (Method method : inside.getDeclaredMethods()) {
                CHECKS.same(method.getName() + " has its own name", publicNames.contains(method.getName()), false);
                fewParameters(method);
            }
        }
    }

    private static void fewParameters(Executable method) {
        CHECKS.same(method.getName() + " has at most seven parameters", method.getParameterCount() <= 7, true);
    }

    private static void fields(Class<?> holder) {
        for (Field field : holder.getDeclaredFields()) {
            int flags = field.getModifiers();
            CHECKS.same(field.getName() + " is private", Modifier.isPrivate(flags), true);
            CHECKS.same(field.getName() + " is no static state", Modifier.isStatic(flags) && !Modifier.isFinal(flags), false);
        }
    }

    private static void theSourceHasNoneOfWhatIsRuledOut() throws IOException {
        String source = Files.readString(Path.of("src/main/java/PictureProof.java"));
        for (String word : RULED_OUT) {
            CHECKS.same("the source has '" + word + "'", source.contains(word), false);
        }
        CHECKS.same("signs beyond 127", source.chars().anyMatch(sign -> sign > 127), false);
    }
}
