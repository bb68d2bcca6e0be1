import java.lang.reflect.Constructor;
import java.lang.reflect.Field;
import java.lang.reflect.Method;
import java.lang.reflect.Modifier;
import java.nio.file.Files;
import java.nio.file.Path;
import java.util.ArrayList;
import java.util.List;
import java.util.TreeSet;
import java.util.regex.Matcher;
import java.util.regex.Pattern;

/** The public face of the document, and those rules of LANGUAGE.md that can be seen from outside. */
public final class FaceTest {
    private static int wrong = 0;

    private static void check(boolean holds, String what) {
        if (!holds) {
            wrong++;
            System.out.println("does not hold: " + what);
        }
    }

    private static final String[] METHODS = {
        "add/4", "change/3", "remove/1", "move/2", "set/2", "item/2", "best/1", "place/3", "column/2",
        "meet/1", "relief/1", "culprit/0", "fit/1", "image/1", "restore/1", "count/1"};

    private static void methods() {
        TreeSet<String> due = new TreeSet<>(List.of(METHODS));
        TreeSet<String> found = new TreeSet<>();
        List<String> hidden = new ArrayList<>();
        for (Method m : StepColumns.class.getDeclaredMethods()) {
            if (Modifier.isPublic(m.getModifiers())) {
                found.add(m.getName() + "/" + m.getParameterCount());
                check(m.getReturnType() == int.class, m.getName() + " answers an int");
                check(!Modifier.isStatic(m.getModifiers()), m.getName() + " is not static");
            } else {
                check(Modifier.isPrivate(m.getModifiers()), m.getName() + " is private");
                hidden.add(m.getName());
            }
        }
        check(found.equals(due), "public methods " + found + ", due are " + due);
        for (Class<?> c : StepColumns.class.getDeclaredClasses()) {
            check(Modifier.isStatic(c.getModifiers()), c + " is static");
            for (Method m : c.getDeclaredMethods()) {
                hidden.add(m.getName());
            }
            check(c.getDeclaredFields().length <= 22, c + " has few fields");
        }
        for (String name : hidden) {
            for (String face : METHODS) {
                check(!face.startsWith(name + "/"), name + " bears no public name");
            }
        }
    }

    private static void fields() throws Exception {
        TreeSet<String> found = new TreeSet<>();
        for (Field f : StepColumns.class.getDeclaredFields()) {
            if (Modifier.isPublic(f.getModifiers())) {
                found.add(f.getName() + "=" + f.getInt(null));
                check(Modifier.isFinal(f.getModifiers()), f.getName() + " is final");
            } else {
                check(Modifier.isPrivate(f.getModifiers()), f.getName() + " is private");
            }
        }
        check(found.toString().equals("[FULL=-4, NONE=-6, OUTSIDE=-2, STATE=-3, UNKNOWN=-1]"), "constants " + found);
    }

    /** Rules 5 and 11: static fields are final, few classes, and few parameters. */
    private static void classes() {
        List<Class<?>> all = new ArrayList<>(List.of(StepColumns.class.getDeclaredClasses()));
        all.add(StepColumns.class);
        check(all.size() <= 12, "at most 12 classes");
        for (Class<?> c : all) {
            for (Field f : c.getDeclaredFields()) {
                boolean isStatic = Modifier.isStatic(f.getModifiers());
                check(!isStatic || Modifier.isFinal(f.getModifiers()), f + " is final");
                check(!isStatic || f.getType() == int.class, f + " is a plain constant");
            }
            for (Method m : c.getDeclaredMethods()) {
                check(m.getParameterCount() <= 7, m + " takes at most 7 parameters");
            }
        }
    }

    /** Rules 11 and 12: methods are short, and objects are made in constructors and fields alone. */
    private static void methodsOfSource(String code) {
        Matcher m = Pattern.compile("(?m)^( +)(?:(?:public|private|static) )*(\\w+ )?(\\w+)\\([^;{}]*\\) \\{$(?s:(.*?))^\\1\\}$").matcher(code);
        int found = 0;
        while (m.find()) {
            boolean isConstructor = m.group(2) == null;
            if (isConstructor && !Character.isUpperCase(m.group(3).charAt(0))) continue;
            found++;
            check(m.group(4).lines().count() <= 60, m.group(3) + " is short");
            check(isConstructor || !m.group(4).matches("(?s).*\\b(new|clone|copyOf|copyOfRange)\\b.*"), m.group(3) + " makes no object");
        }
        check(found >= METHODS.length, "methods are found in the source: " + found);
    }

    private static void source() throws Exception {
        String text = Files.readString(Path.of("src/main/java/StepColumns.java"));
        String code = text.replaceAll("(?s)/\\*.*?\\*/", "").replaceAll("//[^\n]*", "");
        methodsOfSource(code);
        Matcher m = Pattern.compile("\\b(throw|try|catch|synchronized|assert|package|native|\\w+Exact)\\b|->|::").matcher(code);
        while (m.find()) {
            check(false, "the source does without " + m.group());
        }
        Matcher imports = Pattern.compile("import ([^;]*);").matcher(code);
        while (imports.find()) {
            check(imports.group(1).matches("java\\.util\\.(Arrays|List|ArrayList|Iterator)"), "import " + imports.group(1));
        }
    }

    public static void main(String[] args) throws Exception {
        check(Modifier.isFinal(StepColumns.class.getModifiers()), "the class is final");
        check(Modifier.isPublic(StepColumns.class.getModifiers()), "the class is public");
        Constructor<?>[] made = StepColumns.class.getDeclaredConstructors();
        check(made.length == 1 && made[0].getParameterCount() == 0 && Modifier.isPublic(made[0].getModifiers()),
            "one public constructor without arguments");
        methods();
        fields();
        classes();
        source();
        System.out.println(wrong == 0 ? "the face is as due" : wrong + " rules do not hold");
        if (wrong != 0) System.exit(1);
    }
}
