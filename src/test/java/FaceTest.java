import java.lang.reflect.Constructor;
import java.lang.reflect.Field;
import java.lang.reflect.Method;
import java.lang.reflect.Modifier;
import java.nio.file.Files;
import java.nio.file.Path;
import java.util.Set;
import java.util.TreeSet;
import java.util.regex.Matcher;
import java.util.regex.Pattern;

/** The public face, and those rules of LANGUAGE.md that a program can look at. */
public final class FaceTest {
    private static final String[] FACE = {
        "int rest(int)", "int play()", "int rested(int,int,int)", "int echo(int,int,int,int)",
        "int flat(int)", "int told(int,int)", "int mark(int,int)", "int odds(int,int)",
        "int change(int,int,int)", "int mean(int)", "int row(int,int)", "int lay(int,int,int)",
        "int tear(int)", "int copy(int,int,int,int,int)", "int leads(int,int,int)", "int share(int,int)",
        "int gain(int)", "int lot(int,int,int)", "int middle(int,int)", "int bestRow(int,int)",
        "int bestChoice()", "int choice(int)", "int paradoxes()", "int after(int,int,int,int)",
        "int meanAfter(int,int,int)", "int ends(int,int,int,int)", "int run(int,int,int,int)",
        "long upper()", "long lower()", "int count(int)", "int finding()", "int findings(int)",
        "long digest()"};
    private static final Set<String> CONSTANTS = Set.of("BAD", "FULL", "FINDING", "STATE", "NONE");
    private static final String[] FORBIDDEN = {
        "throw", "throws", "try", "catch", "synchronized", "assert", "package", "protected", "->", "::",
        "Exact", "System.out", "Random", "hashCode", "toString", "equals", "import static"};
    private static int wrong = 0;

    private static void due(boolean holds, String what) {
        if (!holds) {
            wrong++;
            System.out.println("not as due: " + what);
        }
    }

    public static void main(String[] args) throws Exception {
        methods();
        fieldsAndConstructor();
        classesInside();
        source(Files.readString(Path.of("src/main/java/TwoGames.java")));
        System.out.println(wrong == 0 ? "FaceTest: as due" : wrong + " things are not as due");
        if (wrong != 0) {
            System.exit(1);
        }
    }

    private static void methods() {
        Set<String> got = new TreeSet<>();
        Set<String> publicNames = new TreeSet<>();
        for (Method method : TwoGames.class.getDeclaredMethods()) {
            if (Modifier.isPublic(method.getModifiers())) {
                got.add(signature(method));
                publicNames.add(method.getName());
            }
        }
        due(got.equals(new TreeSet<>(Set.of(FACE))), "the public methods: " + got);
        for (Method method : TwoGames.class.getDeclaredMethods()) {
            int m = method.getModifiers();
            due(Modifier.isPublic(m) || Modifier.isPrivate(m) || method.isSynthetic(), "private: " + method);
            due(Modifier.isPublic(m) || !publicNames.contains(method.getName()), "own name: " + method);
            due(method.getParameterCount() <= 7, "at most seven parameters: " + method);
        }
    }

    private static String signature(Method method) {
        StringBuilder text = new StringBuilder(method.getReturnType().getName() + " " + method.getName() + "(");
        for (int i = 0; i < method.getParameterCount(); i++) {
            text.append(i == 0 ? "" : ",").append(method.getParameterTypes()[i].getName());
        }
        return text.append(")").toString();
    }

    private static void fieldsAndConstructor() {
        int own = 0;
        for (Field field : TwoGames.class.getDeclaredFields()) {
            int m = field.getModifiers();
            due(Modifier.isPublic(m) == CONSTANTS.contains(field.getName()), "the public fields: " + field);
            due(Modifier.isPublic(m) || Modifier.isPrivate(m), "private: " + field);
            due(!Modifier.isStatic(m) || Modifier.isFinal(m), "static is final: " + field);
            own += Modifier.isStatic(m) ? 0 : 1;
        }
        due(own <= 20, "some twenty fields: " + own);
        due(Modifier.isPublic(TwoGames.class.getModifiers()), "a public class");
        due(Modifier.isFinal(TwoGames.class.getModifiers()), "a final class");
        Constructor<?>[] made = TwoGames.class.getDeclaredConstructors();
        due(made.length == 1 && Modifier.isPublic(made[0].getModifiers())
            && made[0].getParameterCount() == 0, "one public constructor without parameters");
    }

    private static void classesInside() {
        Class<?>[] inside = TwoGames.class.getDeclaredClasses();
        due(inside.length <= 11, "at most some twelve classes");
        for (Class<?> one : inside) {
            due(Modifier.isStatic(one.getModifiers()), "static: " + one);
            due(!Modifier.isPublic(one.getModifiers()), "not public: " + one);
            for (Method method : one.getDeclaredMethods()) {
                due(method.getParameterCount() <= 7, "at most seven parameters: " + method);
            }
        }
    }

    private static void source(String text) {
        String code = text.replaceAll("(?s)/\\*.*?\\*/", "").replaceAll("//[^\n]*", "");
        for (String word : FORBIDDEN) {
            String bound = Character.isLetter(word.charAt(0)) && !word.equals("Exact") ? "\\b" : "";
            due(!Pattern.compile(bound + Pattern.quote(word) + bound).matcher(code).find(), "no " + word);
        }
        Matcher imports = Pattern.compile("import ([\\w.]+);").matcher(code);
        while (imports.find()) {
            due(imports.group(1).equals("java.util.Arrays"), "import " + imports.group(1));
        }
        due(text.chars().allMatch(c -> c < 128), "plain characters alone");
    }
}
