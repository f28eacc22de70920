import java.lang.reflect.Constructor;
import java.lang.reflect.Field;
import java.lang.reflect.Method;
import java.lang.reflect.Modifier;
import java.nio.file.Files;
import java.nio.file.Path;
import java.util.Arrays;
import java.util.Set;
import java.util.TreeSet;
import java.util.regex.Matcher;
import java.util.regex.Pattern;

/** The public face is the document's and no more, and the source keeps to what LANGUAGE.md leaves. */
public final class FaceTest {
    private static final String[] METHODS = {
        "int village(int)", "int loaves(int,int)", "int road(int,int,int)", "int place(int,int,int)",
        "int reach(int,int)", "int number(int)", "int map(int,int,int)", "int lay(int,int,long)",
        "int draw(int,int,int)", "int apart(int,int)", "int way(int,int,int)", "int allowed(int)",
        "long cost(int)", "int served(int,int)", "int share(int,int,int)", "long least()", "int best()",
        "int many()", "int every(int)", "int second(int)", "long lose(int)", "int worst()", "int farthest()",
        "int nearest()", "int added()", "int changed(int)", "int moves()", "int price(int,int)",
        "long priced(int)", "long gives(int,int)", "long worth(int)", "long bound()", "int climb(int,int)",
        "long highest()", "int undo()", "int count(int)"};
    private static final String FORBIDDEN =
        "\\b(import|package|throw|throws|try|catch|synchronized|assert|protected|double|float)\\b|->|::|Exact\\b";

    public static void main(String[] args) throws Exception {
        Check check = new Check();
        check.due("BAD", BreadOvens.BAD, -1);
        check.due("STATE", BreadOvens.STATE, -2);
        check.due("FULL", BreadOvens.FULL, -3);
        check.due("NONE", BreadOvens.NONE, -4);
        methods(check);
        otherMembers(check);
        source(check);
        check.finish();
    }

    private static String faceOf(Method m) {
        StringBuilder text = new StringBuilder();
        text.append(m.getReturnType()).append(' ').append(m.getName()).append('(');
        for (int i = 0; i < m.getParameterTypes().length; i++) {
            text.append(i > 0 ? "," : "").append(m.getParameterTypes()[i]);
        }
        return text.append(')').toString();
    }

    private static void methods(Check check) {
        Set<String> due = new TreeSet<>(Arrays.asList(METHODS));
        Set<String> names = new TreeSet<>();
        Set<String> found = new TreeSet<>();
        for (Method m : BreadOvens.class.getDeclaredMethods()) {
            if (!Modifier.isPrivate(m.getModifiers())) {
                found.add(faceOf(m));
                names.add(m.getName());
            }
        }
        for (String face : due) {
            check.due("there is " + face, found.contains(face) ? 1 : 0, 1);
        }
        check.due("the number of methods that are not private", found.size(), due.size());
        for (Method m : BreadOvens.class.getDeclaredMethods()) {
            boolean hides = Modifier.isPrivate(m.getModifiers()) && names.contains(m.getName());
            check.due("a private method has the public name " + m.getName(), hides ? 1 : 0, 0);
        }
    }

    private static void otherMembers(Check check) {
        check.due("final", Modifier.isFinal(BreadOvens.class.getModifiers()) ? 1 : 0, 1);
        Constructor<?>[] constructors = BreadOvens.class.getDeclaredConstructors();
        check.due("constructors", constructors.length, 1);
        check.due("its parameters", constructors[0].getParameterCount(), 0);
        int open = 0;
        for (Field f : BreadOvens.class.getDeclaredFields()) {
            open += Modifier.isPrivate(f.getModifiers()) ? 0 : 1;
            boolean changing = Modifier.isStatic(f.getModifiers()) && !Modifier.isFinal(f.getModifiers());
            check.due("a static field that changes: " + f.getName(), changing ? 1 : 0, 0);
        }
        check.due("fields that are not private", open, 4);
    }

    private static void source(Check check) throws Exception {
        String text = Files.readString(Path.of("src/main/java/BreadOvens.java"));
        String code = text.replaceAll("(?s)/\\*.*?\\*/", " ").replaceAll("//.*", " ");
        Matcher word = Pattern.compile(FORBIDDEN).matcher(code);
        while (word.find()) {
            check.due("the source has '" + word.group() + "'", 1, 0);
        }
        check.due("characters beyond 255", text.chars().filter(c -> c > 255).count(), 0);
    }
}
