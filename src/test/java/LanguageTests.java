import java.lang.reflect.Field;
import java.lang.reflect.Method;
import java.lang.reflect.Modifier;
import java.nio.file.Files;
import java.nio.file.Path;
import java.util.Arrays;
import java.util.Set;
import java.util.TreeSet;
import java.util.regex.Matcher;
import java.util.regex.Pattern;

/** Those rules of LANGUAGE.md that can be looked at from outside. */
public final class LanguageTests {
    private static final Path SOURCE = Path.of("src/main/java/LastCallersWord.java");
    private static final String[] FACE = {
        "write/1", "wipe/0", "fault/0", "lay/0", "person/2", "likes/2", "door/2", "call/2", "tries/2", "day/0",
        "alter/3", "undo/0", "shutOut/0", "knowsBy/2", "when/2", "lets/2", "keeps/3", "allIn/1", "friend/2",
        "seen/3", "forget/0", "called/1", "guess/1", "mean/1", "inTime/1", "likely/3", "street/3", "keep/0",
        "back/0", "count/1"};
    private static final String[] FORBIDDEN = {
        "\\bthrow\\b", "\\bthrows\\b", "\\btry\\b", "\\bcatch\\b", "\\bsynchronized\\b", "\\bassert\\b", "\\bimport\\b",
        "\\bpackage\\b", "->", "::", "@", "\\w+Exact\\b", "\\bprotected\\b", "\\bvar\\b", "\\bnative\\b", "\\bvolatile\\b",
        "\\bwhile\\b", "\\bdouble\\b", "\\bfloat\\b", "\\bObject\\b", "System\\.(?!arraycopy)", "\\bArrays\\b"};

    private static int wrong = 0;

    public static void main(String[] args) throws Exception {
        String source = Files.readString(SOURCE);
        theFace();
        theClassesInside();
        theFields(LastCallersWord.class);
        forbiddenWords(source);
        plainSigns(source);
        shortMethods(source);
        System.out.println("LanguageTests: " + wrong + " rules broken");
        if (wrong != 0) {
            System.exit(1);
        }
    }

    private static void hold(boolean rule, String what) {
        if (!rule) {
            wrong++;
            System.out.println("LANGUAGE: " + what);
        }
    }

    private static void theFace() {
        Class<?> type = LastCallersWord.class;
        hold(Modifier.isPublic(type.getModifiers()) && Modifier.isFinal(type.getModifiers()), "public and final");
        hold(type.getConstructors().length == 1 && type.getDeclaredConstructors().length == 1, "one constructor");
        Set<String> shown = new TreeSet<>();
        Set<String> names = new TreeSet<>();
        for (Method method : type.getDeclaredMethods()) {
            if (Modifier.isPublic(method.getModifiers())) {
                shown.add(method.getName() + "/" + method.getParameterCount());
                names.add(method.getName());
                hold(method.getReturnType() == int.class, method + " answers an int");
                hold(Arrays.stream(method.getParameterTypes()).allMatch(x -> x == int.class), method + " takes ints");
            }
        }
        hold(shown.equals(new TreeSet<>(Arrays.asList(FACE))), "the face is " + shown);
        for (Method method : type.getDeclaredMethods()) {
            hold(Modifier.isPublic(method.getModifiers()) || Modifier.isPrivate(method.getModifiers()), method + " is private");
            hold(Modifier.isPublic(method.getModifiers()) || !names.contains(method.getName()), method + " bears a public name");
        }
        for (Class<?> inside : type.getDeclaredClasses()) {
            for (Method method : inside.getDeclaredMethods()) {
                hold(!names.contains(method.getName()), method + " bears a public name");
            }
        }
    }

    private static void theClassesInside() {
        Class<?>[] inside = LastCallersWord.class.getDeclaredClasses();
        hold(inside.length <= 11, "at most twelve classes");
        for (Class<?> type : inside) {
            int modifiers = type.getModifiers();
            hold(Modifier.isStatic(modifiers), type + " is static");
            hold(!Modifier.isPublic(modifiers) && !Modifier.isProtected(modifiers), type + " is not shown");
            theFields(type);
            for (Method method : type.getDeclaredMethods()) {
                hold(method.getParameterCount() <= 7, method + " takes at most seven");
            }
        }
    }

    private static void theFields(Class<?> type) {
        int many = 0;
        for (Field field : type.getDeclaredFields()) {
            int modifiers = field.getModifiers();
            boolean constant = Modifier.isStatic(modifiers);
            hold(!constant || Modifier.isFinal(modifiers), field + " is final");
            hold(!Modifier.isPublic(modifiers) || constant && Set.of("BAD", "NO", "FULL", "NONE").contains(field.getName()),
                field + " is not of the face");
            hold(type != LastCallersWord.class || Modifier.isPublic(modifiers) || Modifier.isPrivate(modifiers),
                field + " is private");
            many += constant ? 0 : 1;
        }
        hold(many <= 20, type + " has some twenty fields at most");
    }

    private static void forbiddenWords(String source) {
        String bare = source.replaceAll("(?s)/\\*.*?\\*/", "").replaceAll("//[^\n]*", "");
        for (String word : FORBIDDEN) {
            hold(!Pattern.compile(word).matcher(bare).find(), "the source has " + word);
        }
    }

    private static void plainSigns(String source) {
        hold(source.chars().allMatch(sign -> sign >= 1 && sign <= 127), "signs 1 to 127 alone");
    }

    private static void shortMethods(String source) {
        Matcher method = Pattern.compile("(?m)^( {4}| {8})(?! )[^\n;]*\\) \\{\n(?s:.*?)^\\1\\}").matcher(source);
        int found = 0;
        while (method.find()) {
            found++;
            hold(method.group().lines().count() <= 60, "a long method: " + method.group().lines().findFirst().orElse(""));
        }
        hold(found > FACE.length, "methods are found: " + found);
    }
}
