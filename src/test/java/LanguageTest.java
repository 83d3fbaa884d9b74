import java.lang.reflect.Field;
import java.lang.reflect.Method;
import java.lang.reflect.Modifier;
import java.nio.file.Files;
import java.nio.file.Path;
import java.util.List;
import java.util.TreeSet;
import java.util.regex.Matcher;
import java.util.regex.Pattern;

/** The rules of ../shared/LANGUAGE.md that a program can look at: the face, and words that are left out. */
public final class LanguageTest {
    private static final List<String> FACE = List.of(
            "singer(int,int)", "song(int,int,int)", "leave(int,boolean)", "wish(int,int,int)", "takeBack(int)",
            "sing(int)", "read()", "of(int,int)", "inQueue(int,int)", "key(int,int,int)", "ofSong(int,int)",
            "past(int,int)", "count(int)", "turnOf(int,int)", "endOfAll()", "ifLeft(int)", "heldUpBy(int,int)",
            "together(int,int)", "put(long)", "wipe()", "fault()", "undo()", "save(int)", "restore(int)");
    private static final List<String> CONSTANTS = List.of(
            "NO_SUCH", "BAD_VALUE", "BAD_TEXT", "TOO_MANY", "NOT_POSSIBLE", "NONE");
    private static final Pattern LEFT_OUT = Pattern.compile(
            "\\b(throw|throws|try|catch|finally|synchronized|assert|import|package|volatile|transient|native"
            + "|Object|Exception|Thread|Random|System\\.(?!arraycopy))\\b|->|::|@|\\w+Exact\\b");

    private static int wrong = 0;

    public static void main(String[] args) throws Exception {
        checkFace();
        checkInnerClasses();
        checkSource(Files.readString(Path.of("src/main/java/SingerQueue.java")));
        System.out.println(wrong == 0 ? "LanguageTest: the rules are kept" : "LanguageTest: " + wrong + " wrong");
        if (wrong != 0) {
            System.exit(1);
        }
    }

    private static void require(boolean holds, String what) {
        if (!holds) {
            wrong++;
            System.out.println("LanguageTest: " + what);
        }
    }

    private static void checkFace() {
        Class<?> face = SingerQueue.class;
        require(Modifier.isPublic(face.getModifiers()) && Modifier.isFinal(face.getModifiers()), "public and final");
        TreeSet<String> open = new TreeSet<>();
        TreeSet<String> openNames = new TreeSet<>();
        for (Method method : face.getDeclaredMethods()) {
            if (Modifier.isPublic(method.getModifiers())) {
                require(method.getReturnType() == int.class, method.getName() + " returns an int");
                open.add(signature(method));
                openNames.add(method.getName());
            }
        }
        require(open.equals(new TreeSet<>(FACE)), "the public methods are " + open);
        for (Method method : face.getDeclaredMethods()) {
            if (!Modifier.isPublic(method.getModifiers()) && !method.isSynthetic()) {
                require(Modifier.isPrivate(method.getModifiers()), method.getName() + " is private");
                require(!openNames.contains(method.getName()), method.getName() + " bears a public name");
            }
        }
        checkFields(face);
    }

    private static void checkFields(Class<?> face) {
        TreeSet<String> open = new TreeSet<>();
        for (Field field : face.getDeclaredFields()) {
            if (Modifier.isPublic(field.getModifiers())) {
                open.add(field.getName());
            } else {
                require(Modifier.isPrivate(field.getModifiers()) || field.isSynthetic(), field + " is private");
            }
            require(!Modifier.isStatic(field.getModifiers()) || Modifier.isFinal(field.getModifiers()),
                    field + " is final");
        }
        require(open.equals(new TreeSet<>(CONSTANTS)), "the public constants are " + open);
    }

    private static String signature(Method method) {
        StringBuilder text = new StringBuilder(method.getName()).append('(');
        for (Class<?> type : method.getParameterTypes()) {
            text.append(text.charAt(text.length() - 1) == '(' ? "" : ",").append(type.getName());
        }
        return text.append(')').toString();
    }

    private static void checkInnerClasses() {
        Class<?>[] inner = SingerQueue.class.getDeclaredClasses();
        require(inner.length <= 11, "some twelve classes at most");
        for (Class<?> one : inner) {
            require(Modifier.isStatic(one.getModifiers()), one + " is static");
            require(!Modifier.isPublic(one.getModifiers()), one + " is not public");
            require(one.getDeclaredFields().length <= 20, one + " has some twenty fields at most");
            for (Method method : one.getDeclaredMethods()) {
                require(method.getParameterCount() <= 7, method + " takes at most seven parameters");
            }
        }
    }

    private static void checkSource(String source) {
        String code = source.replaceAll("(?s)/\\*.*?\\*/", "").replaceAll("//[^\n]*", "")
                .replaceAll("'[^']'", "' '");
        Matcher matcher = LEFT_OUT.matcher(code);
        while (matcher.find()) {
            require(false, "the source has '" + matcher.group() + "'");
        }
        require(source.chars().allMatch(c -> c < 128), "the source holds plain characters alone");
    }
}
