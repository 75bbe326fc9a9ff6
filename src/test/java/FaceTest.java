import java.lang.reflect.Constructor;
import java.lang.reflect.Field;
import java.lang.reflect.Method;
import java.lang.reflect.Modifier;
import java.nio.charset.StandardCharsets;
import java.nio.file.Files;
import java.nio.file.Path;
import java.util.Arrays;
import java.util.Set;
import java.util.TreeSet;

/** The public face of the document, and the rules of LANGUAGE.md that a program can look up. */
public final class FaceTest {
    private static final String OUT = "IndexOutOfBoundsException";
    private static final String ARGUMENT = "IllegalArgumentException";
    private static final String STATE = "IllegalStateException";

    private FaceTest() {
    }

    public static void main(String[] args) throws Exception {
        methodsAreTheDocuments();
        nothingElseIsVisible();
        privateNamesAreOthers();
        sourceKeepsToTheLanguage();
        Check.end();
    }

    private static Set<String> face() {
        return new TreeSet<>(Arrays.asList(
            "void setRates(int,int) " + ARGUMENT,
            "int start(int) " + OUT + "," + STATE,
            "int book(int,int) " + OUT + "," + STATE,
            "int cancel(int,int) " + OUT + "," + STATE,
            "int board(int,int) " + OUT + "," + STATE,
            "int leave(int,int) " + OUT + "," + STATE,
            "int drive(int,int,int) " + OUT + "," + ARGUMENT + "," + STATE,
            "int finish(int) " + OUT + "," + STATE,
            "int aboard(int) " + OUT,
            "int charge(int,int) " + OUT,
            "boolean isVoid(int) " + OUT,
            "int dispute(int,int) " + OUT + "," + STATE,
            "int settle(int,int,int,boolean) " + OUT + "," + ARGUMENT + "," + STATE,
            "int openDisputes() ",
            "int closeWeek() " + STATE,
            "int week() ",
            "int earnings(int,int) " + OUT + "," + ARGUMENT,
            "int topUp(int,int) " + OUT + "," + ARGUMENT,
            "int bonus(int,int) " + OUT + "," + ARGUMENT,
            "int pay(int,int) " + OUT + "," + ARGUMENT,
            "int balance(int) " + OUT,
            "int paid(int) " + OUT,
            "int spent(int) " + OUT,
            "int house() ",
            "float averageCharge(int) " + OUT + "," + STATE));
    }

    private static String names(Class<?>[] kinds) {
        StringBuilder text = new StringBuilder();
        for (Class<?> kind : kinds) {
            text.append(text.length() == 0 ? "" : ",").append(kind.getSimpleName());
        }
        return text.toString();
    }

    private static void methodsAreTheDocuments() {
        Set<String> found = new TreeSet<>();
        for (Method method : Wheelpay.class.getDeclaredMethods()) {
            if (Modifier.isPublic(method.getModifiers())) {
                found.add(method.getReturnType().getSimpleName() + " " + method.getName()
                    + "(" + names(method.getParameterTypes()) + ") " + names(method.getExceptionTypes()));
            }
        }
        Check.compare("the public methods", found.toString(), face().toString());
        Check.compare("final", "" + Modifier.isFinal(Wheelpay.class.getModifiers()), "true");
        Check.compare("public", "" + Modifier.isPublic(Wheelpay.class.getModifiers()), "true");
    }

    private static void nothingElseIsVisible() {
        for (Method method : Wheelpay.class.getDeclaredMethods()) {
            int flags = method.getModifiers();
            boolean isFine = Modifier.isPublic(flags) || Modifier.isPrivate(flags) || method.isSynthetic();
            Check.compare("method " + method.getName() + " is public or private", "" + isFine, "true");
        }
        for (Field field : Wheelpay.class.getDeclaredFields()) {
            int flags = field.getModifiers();
            Check.compare("field " + field.getName() + " is private", "" + Modifier.isPrivate(flags), "true");
            boolean isFine = !Modifier.isStatic(flags) || Modifier.isFinal(flags);
            Check.compare("static field " + field.getName() + " is final", "" + isFine, "true");
        }
        Constructor<?>[] makers = Wheelpay.class.getDeclaredConstructors();
        Check.compare("constructors", "" + makers.length, "1");
        Check.compare("its parameters", "" + makers[0].getParameterCount(), "0");
        Check.compare("it is public", "" + Modifier.isPublic(makers[0].getModifiers()), "true");
    }

    private static void privateNamesAreOthers() {
        Set<String> visible = new TreeSet<>();
        for (Method method : Wheelpay.class.getDeclaredMethods()) {
            if (Modifier.isPublic(method.getModifiers())) {
                visible.add(method.getName());
            }
        }
        for (Method method : Wheelpay.class.getDeclaredMethods()) {
            boolean isTaken = !Modifier.isPublic(method.getModifiers()) && visible.contains(method.getName());
            Check.compare("private " + method.getName() + " bears a public name", "" + isTaken, "false");
        }
        for (Class<?> inside : Wheelpay.class.getDeclaredClasses()) {
            for (Method method : inside.getDeclaredMethods()) {
                boolean isTaken = visible.contains(method.getName());
                Check.compare(inside.getSimpleName() + "." + method.getName() + " bears a public name",
                    "" + isTaken, "false");
            }
        }
    }

    private static void sourceKeepsToTheLanguage() throws Exception {
        String source = Files.readString(Path.of("src/main/java/Wheelpay.java"), StandardCharsets.US_ASCII);
        for (String banned : new String[] {"->", "::", "package ", "synchronized", "assert ", "finally",
                "catch", "instanceof", "Exact(", "System.", "java.io", "java.nio", "Object"}) {
            Check.compare("the source holds " + banned, "" + source.contains(banned), "false");
        }
        String imports = source.replace("import java.util.ArrayList;", "");
        Check.compare("another import", "" + imports.contains("import "), "false");
    }
}
