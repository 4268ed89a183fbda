import java.lang.reflect.Constructor;
import java.lang.reflect.Field;
import java.lang.reflect.Method;
import java.lang.reflect.Modifier;
import java.nio.file.Files;
import java.nio.file.Path;
import java.util.Arrays;
import java.util.Set;
import java.util.TreeSet;
import java.util.regex.Matcher;
import java.util.regex.Pattern;

/** The class has the document's face and no other, and keeps to those rules of the language that a text shows. */
public final class FaceTest {
    private static final String[] FACE = {
        "int glass(int)", "int of(int,int)", "long part(int,int)", "long lower()", "int taste(int,int)",
        "int fill(int,int,int)", "int spoon(int,int,int)", "int lick(int,int)", "int empty(int)",
        "int feed(int,int,int,int,int)", "int end(int)", "int row()", "int spilt()", "int evening()", "int fault()",
        "int stopped()", "int alike(int,int,int)", "long both(int,int,int,int)", "int rounds(int,int,int)",
        "int size(int)", "int wash()", "int reach(int,int,int,int,int,int)", "int tasting(int,int,int)",
        "int fits(int,int,int)", "long cask(int,int,int,int)", "int guests(int,int,int)",
        "long rinse(int,int,int,int)", "int wine(int,int,int)", "int drink(int)", "int mix(int,int,int)",
        "long cards(int,int,int,int,int)", "int night(int,int)", "int drawn(int,int)", "int image(int)",
        "int back(int)", "int count(int)", "int status()",
    };

    public static void main(String[] args) throws Exception {
        methods();
        fieldsAndConstructors();
        source();
        Check.close();
    }

    private static void methods() {
        Set<String> want = new TreeSet<>(Arrays.asList(FACE));
        Set<String> got = new TreeSet<>();
        Set<String> publicNames = new TreeSet<>();
        for (Method m : WineSpoon.class.getDeclaredMethods()) {
            if (Modifier.isPublic(m.getModifiers())) {
                publicNames.add(m.getName());
                String kinds = Arrays.toString(m.getParameterTypes()).replaceAll("[\\[\\] ]", "");
                got.add(m.getReturnType() + " " + m.getName() + "(" + kinds + ")");
                Check.isTrue(m + " is not static", !Modifier.isStatic(m.getModifiers()));
            } else {
                Check.isTrue(m + " is private", Modifier.isPrivate(m.getModifiers()));
            }
        }
        if (!want.equals(got)) {
            System.out.println("want " + want + "\n got " + got);
        }
        Check.isTrue("the methods are the document's", want.equals(got));
        checkPrivateNames(WineSpoon.class, publicNames);
        for (Class<?> inside : WineSpoon.class.getDeclaredClasses()) {
            checkPrivateNames(inside, publicNames);
            Check.isTrue(inside + " is static", Modifier.isStatic(inside.getModifiers()));
            Check.isTrue(inside + " is not public", !Modifier.isPublic(inside.getModifiers()));
            Check.isTrue(inside + " has few fields", inside.getDeclaredFields().length <= 20);
        }
    }

    private static void checkPrivateNames(Class<?> holder, Set<String> publicNames) {
        for (Method m : holder.getDeclaredMethods()) {
            boolean ofTheFace = Modifier.isPublic(m.getModifiers()) && holder == WineSpoon.class;
            Check.isTrue(m + " has a name of its own", ofTheFace || !publicNames.contains(m.getName()));
            Check.isTrue(m + " has few parameters", m.getParameterCount() <= 7);
        }
    }

    private static void fieldsAndConstructors() {
        int modifiers = WineSpoon.class.getModifiers();
        Check.isTrue("public and final", Modifier.isPublic(modifiers) && Modifier.isFinal(modifiers));
        Check.due("NONE", WineSpoon.NONE, -1);
        for (Field f : WineSpoon.class.getDeclaredFields()) {
            boolean constant = Modifier.isStatic(f.getModifiers()) && Modifier.isFinal(f.getModifiers());
            boolean fine = f.getName().equals("NONE")
                ? Modifier.isPublic(f.getModifiers()) && constant
                : Modifier.isPrivate(f.getModifiers()) && (constant || !Modifier.isStatic(f.getModifiers()));
            Check.isTrue("field " + f.getName(), fine);
        }
        Constructor<?>[] made = WineSpoon.class.getDeclaredConstructors();
        Check.due("constructors", made.length, 1);
        Check.due("its parameters", made[0].getParameterCount(), 0);
        Check.isTrue("it is public", Modifier.isPublic(made[0].getModifiers()));
    }

    private static void source() throws Exception {
        String text = Files.readString(Path.of("src/main/java/WineSpoon.java"));
        String bare = text.replaceAll("(?s)/\\*.*?\\*/", "").replaceAll("//[^\\n]*", "").replaceAll("\"[^\"\\n]*\"", "\"\"");
        Matcher banned = Pattern.compile("\\b(throw|throws|try|catch|synchronized|assert|import|package|native|volatile)\\b|->|::|\\.\\.\\.|Exact\\b|(==|!=) *\"").matcher(bare);
        Check.isTrue("nothing that the rules leave out", !banned.find());
        for (int at = 0; at < text.length(); at++) {
            if (text.charAt(at) > 126) {
                Check.due("sign at " + at, text.charAt(at), 0);
            }
        }
    }
}
