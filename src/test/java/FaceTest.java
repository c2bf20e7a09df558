import java.io.IOException;
import java.lang.reflect.Constructor;
import java.lang.reflect.Field;
import java.lang.reflect.Method;
import java.lang.reflect.Modifier;
import java.nio.file.Files;
import java.nio.file.Path;
import java.util.ArrayList;
import java.util.List;
import java.util.Set;
import java.util.TreeSet;
import java.util.regex.Matcher;
import java.util.regex.Pattern;

/** The public face of the document, and those rules of LANGUAGE.md that can be seen from outside or in the text. */
public final class FaceTest {
    private static final String[] FACE = {
        "int addJob() throws IllegalStateException",
        "int addStep(int, int, int) throws IndexOutOfBoundsException, IllegalArgumentException, IllegalStateException",
        "int setWorkers(int) throws IllegalArgumentException, IllegalStateException",
        "int setWay(int, int) throws IllegalArgumentException, IllegalStateException",
        "int submit(int) throws IndexOutOfBoundsException, IllegalStateException",
        "int cancel(int) throws IndexOutOfBoundsException, IllegalStateException",
        "boolean keep(int, int) throws IndexOutOfBoundsException, IllegalArgumentException",
        "int tick(int) throws IllegalArgumentException",
        "int clock()",
        "int tasks()",
        "int stateOf(int) throws IndexOutOfBoundsException",
        "int valueOf(int) throws IndexOutOfBoundsException",
        "int stepOf(int) throws IndexOutOfBoundsException",
        "int parentOf(int) throws IndexOutOfBoundsException",
        "int childrenOf(int) throws IndexOutOfBoundsException",
        "int workOf(int) throws IndexOutOfBoundsException",
        "int overAt(int) throws IndexOutOfBoundsException",
        "int promise(int) throws IndexOutOfBoundsException",
        "int workers()",
        "int top(int) throws IndexOutOfBoundsException",
        "int stack(int) throws IndexOutOfBoundsException",
        "int row(int) throws IndexOutOfBoundsException",
        "int inRow(int, int) throws IndexOutOfBoundsException",
        "int told(int, int) throws IndexOutOfBoundsException, IllegalArgumentException",
        "int ran(int, int) throws IndexOutOfBoundsException, IllegalArgumentException",
        "int halted()",
        "double load()",
        "int overIn(int, int) throws IndexOutOfBoundsException, IllegalArgumentException",
        "int valueIn(int, int) throws IndexOutOfBoundsException, IllegalArgumentException",
        "int haltsIn(int) throws IllegalArgumentException",
        "int alone(int, int, int) throws IndexOutOfBoundsException, IllegalArgumentException",
        "long digest()"
    };

    public static void main(String[] args) throws IOException {
        methodsAreTheFace();
        nothingElseIsOpen();
        classesAreSmall();
        textKeepsToTheRules();
        Due.end();
    }

    private static void methodsAreTheFace() {
        Set<String> want = new TreeSet<>(Set.of(FACE));
        Set<String> got = new TreeSet<>();
        Set<String> names = new TreeSet<>();
        for (Method method : BobbinPool.class.getDeclaredMethods()) {
            if (!Modifier.isPrivate(method.getModifiers()) && !method.isSynthetic()) {
                got.add(signature(method));
                names.add(method.getName());
                Due.is(method + " is public", Modifier.isPublic(method.getModifiers()) ? 1 : 0, 1);
            }
        }
        Due.is("the face " + got + " is as due", got.equals(want) ? 1 : 0, 1);
        for (Class<?> place : classes()) {
            for (Method method : place.getDeclaredMethods()) {
                if (!Modifier.isPublic(method.getModifiers())) {
                    Due.is(method + " bears the name of a public one", names.contains(method.getName()) ? 1 : 0, 0);
                }
            }
        }
    }

    /** The class of the document and those inside it. */
    private static List<Class<?>> classes() {
        List<Class<?>> all = new ArrayList<>(List.of(BobbinPool.class));
        all.addAll(List.of(BobbinPool.class.getDeclaredClasses()));
        return all;
    }

    private static void classesAreSmall() {
        Due.is(classes().size() + " classes are at most twelve", classes().size() <= 12 ? 1 : 0, 1);
        for (Class<?> place : classes()) {
            int fields = 0;
            for (Field field : place.getDeclaredFields()) {
                fields += Modifier.isStatic(field.getModifiers()) ? 0 : 1;
            }
            Due.is(place + " has " + fields + " fields, at most twenty", fields <= 20 ? 1 : 0, 1);
            for (Method method : place.getDeclaredMethods()) {
                Due.is(method + " has at most seven parameters", method.getParameterCount() <= 7 ? 1 : 0, 1);
            }
        }
    }

    private static String signature(Method method) {
        StringBuilder text = new StringBuilder(method.getReturnType() + " " + method.getName() + "(");
        for (Class<?> type : method.getParameterTypes()) {
            text.append(text.charAt(text.length() - 1) == '(' ? "" : ", ").append(type);
        }
        text.append(")");
        String before = " throws ";
        for (Class<?> thrown : method.getExceptionTypes()) {
            text.append(before).append(thrown.getSimpleName());
            before = ", ";
        }
        return text.toString();
    }

    private static void nothingElseIsOpen() {
        Class<?> face = BobbinPool.class;
        Due.is("public and final", face.getModifiers() & (Modifier.PUBLIC | Modifier.FINAL),
                Modifier.PUBLIC | Modifier.FINAL);
        Due.is("constructors", face.getDeclaredConstructors().length, 1);
        for (Constructor<?> constructor : face.getDeclaredConstructors()) {
            Due.is("the constructor is public", constructor.getModifiers() & Modifier.PUBLIC, Modifier.PUBLIC);
            Due.is("its parameters", constructor.getParameterCount(), 0);
        }
        for (Field field : face.getDeclaredFields()) {
            Due.is(field + " is private", field.getModifiers() & Modifier.PRIVATE, Modifier.PRIVATE);
        }
        for (Class<?> inside : face.getDeclaredClasses()) {
            Due.is(inside + " is static", inside.getModifiers() & Modifier.STATIC, Modifier.STATIC);
            Due.is(inside + " is closed", inside.getModifiers() & (Modifier.PUBLIC | Modifier.PROTECTED), 0);
            for (Field field : inside.getDeclaredFields()) {
                boolean open = Modifier.isStatic(field.getModifiers()) && !Modifier.isFinal(field.getModifiers());
                Due.is(field + " is static and not final", open ? 1 : 0, 0);
            }
        }
    }

    private static void textKeepsToTheRules() throws IOException {
        String text = Files.readString(Path.of("src/main/java/BobbinPool.java"));
        for (String ruledOut : new String[] {
                "->", "::", "\\bcatch\\b", "\\bfinally\\b", "\\bpackage\\b", "\\bsynchronized\\b", "\\bassert\\b",
                "Exact\\b", "\\bwhile\\b", "\\bMath\\.random", "\\bSystem\\.(?!arraycopy)", "\\bThread\\b"}) {
            Due.is("the text holds " + ruledOut, Pattern.compile(ruledOut).matcher(text).find() ? 1 : 0, 0);
        }
        Matcher imports = Pattern.compile("import (.*);").matcher(text);
        while (imports.find()) {
            Due.is("the import " + imports.group(1) + " is allowed",
                    Set.of("java.util.Arrays", "java.util.ArrayList", "java.util.List").contains(imports.group(1))
                            ? 1 : 0, 1);
        }
    }
}
