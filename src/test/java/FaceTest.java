import java.lang.reflect.Constructor;
import java.lang.reflect.Field;
import java.lang.reflect.Method;
import java.lang.reflect.Modifier;
import java.nio.charset.StandardCharsets;
import java.nio.file.Files;
import java.nio.file.Path;
import java.util.Arrays;
import java.util.HashSet;
import java.util.Set;
import java.util.TreeSet;
import java.util.regex.Matcher;
import java.util.regex.Pattern;
import java.util.stream.Collectors;

/** The public face as the document has it, and of LANGUAGE.md what a look at the class and its text can find. */
public final class FaceTest {
    private static final Due due = new Due("FaceTest");
    private static final String FACE = "after(int)int becomes(int)int book(int,int)int choose(int)int count(int)int "
        + "counted(int,int,int,int)int event(int,int)int exchange(int,int)int feed(int)int fits()int image()int "
        + "item(int,int,long)int judge(int,int)int label(int,int)int looked()int lower(int)int mapped(int,int)int "
        + "mean(int,int)long odds(int,int,int)long of(int,int)int peek(int,int)long raise(int)int read()int "
        + "row(int,int)int see(int,int)int shift(int,int,int,int,int)int size(int)int step(int,int)int "
        + "sum(int,int,int,int)long tape(int,int,int)int told(int)int undo()int ways(int)int written(int)int";
    private static final String[] RULED_OUT = {"\\bthrow\\b", "\\bthrows\\b", "\\btry\\b", "\\bcatch\\b",
        "\\bsynchronized\\b", "\\bassert\\b", "::", "\\bpackage\\b", "\\w+Exact\\b", "\\bObject\\b",
        "\\bimport (?!java\\.util\\.(ArrayList|List|Arrays|Iterator);)", "static\\s*\\{", "\\bboolean equals\\b",
        "\\bint hashCode\\b", "\\bString toString\\b", "System\\.(?!arraycopy)", "\\bnew\\s+\\w+\\([^)]*\\)\\s*\\{"};

    public static void main(String[] args) throws Exception {
        constants();
        members();
        classesInside();
        text(Files.readString(Path.of(args[0]), StandardCharsets.ISO_8859_1));
        due.end();
    }

    private static void constants() throws Exception {
        due.is("NONE", -1, StairPaths.NONE);
        due.is("BAD", -2, StairPaths.BAD);
        due.is("STATE", -3, StairPaths.STATE);
        due.is("FULL", -4, StairPaths.FULL);
        due.is("NO", Long.MIN_VALUE, StairPaths.NO);
        due.holds("NO is a long", StairPaths.class.getField("NO").getType() == long.class);
        Set<String> names = new TreeSet<>();
        for (Field field : StairPaths.class.getDeclaredFields()) {
            int kind = field.getModifiers();
            if (Modifier.isPublic(kind)) {
                names.add(field.getName());
                due.holds(field + " is a constant", Modifier.isStatic(kind) && Modifier.isFinal(kind));
            } else {
                due.holds(field + " is private", Modifier.isPrivate(kind));
            }
        }
        due.holds("public fields " + names, names.equals(Set.of("NONE", "BAD", "STATE", "FULL", "NO")));
    }

    private static void members() {
        int kind = StairPaths.class.getModifiers();
        due.holds("public and final", Modifier.isPublic(kind) && Modifier.isFinal(kind));
        Constructor<?>[] constructors = StairPaths.class.getDeclaredConstructors();
        due.holds("one constructor", constructors.length == 1 && Modifier.isPublic(constructors[0].getModifiers())
            && constructors[0].getParameterCount() == 0);
        Set<String> face = new TreeSet<>();
        Set<String> publicNames = new HashSet<>();
        for (Method method : StairPaths.class.getDeclaredMethods()) {
            if (Modifier.isPublic(method.getModifiers())) {
                publicNames.add(method.getName());
                String given = Arrays.stream(method.getParameterTypes()).map(Class::getName).collect(Collectors.joining(","));
                face.add(method.getName() + "(" + given + ")" + method.getReturnType().getName());
            } else {
                due.holds(method + " is private", Modifier.isPrivate(method.getModifiers()));
            }
        }
        due.holds("the face " + face, face.equals(new TreeSet<>(Arrays.asList(FACE.split(" ")))));
        noPublicNames(StairPaths.class, publicNames);
        for (Class<?> inside : StairPaths.class.getDeclaredClasses()) {
            noPublicNames(inside, publicNames);
        }
    }

    private static void noPublicNames(Class<?> type, Set<String> publicNames) {
        for (Method method : type.getDeclaredMethods()) {
            boolean ofTheFace = type == StairPaths.class && Modifier.isPublic(method.getModifiers());
            due.holds(method + " bears no public name", ofTheFace || !publicNames.contains(method.getName()));
            due.holds(method + " takes seven at most", method.getParameterCount() <= 7);
        }
    }

    private static void classesInside() {
        Class<?>[] inside = StairPaths.class.getDeclaredClasses();
        due.holds("some twelve classes", inside.length <= 14);
        for (Class<?> type : inside) {
            due.holds(type + " is static", Modifier.isStatic(type.getModifiers()));
            due.holds(type + " isn't public", !Modifier.isPublic(type.getModifiers()));
        }
        for (Class<?> type : inside) {
            fields(type);
        }
        fields(StairPaths.class);
    }

    private static void fields(Class<?> type) {
        int own = 0;
        for (Field field : type.getDeclaredFields()) {
            if (Modifier.isStatic(field.getModifiers())) {
                due.holds(field + " is final", Modifier.isFinal(field.getModifiers()));
            } else {
                own++;
            }
        }
        due.holds(type + " has some twenty fields", own <= 24);
    }

    private static void text(String source) {
        String bare = source.replaceAll("(?s)/\\*.*?\\*/", "").replaceAll("//[^\n]*", "");
        due.holds("ASCII alone", bare.chars().allMatch(sign -> sign < 128));
        bare = bare.replaceAll("\"[^\"\n]*\"", "\"\"").replaceAll("'[^'\n]*'", "' '");
        for (String ruledOut : RULED_OUT) {
            Matcher matcher = Pattern.compile(ruledOut).matcher(bare);
            due.holds("the text has no " + ruledOut, !matcher.find());
        }
        due.holds("no lambdas", !Pattern.compile("->").matcher(bare.replaceAll("(case [^:;{}]*|default )->", "")).find());
        due.holds("no texts are joined by +", !Pattern.compile("\"\"\\s*\\+|\\+\\s*\"\"").matcher(bare).find());
        methodLengths(bare);
    }

    /** A method is a block behind a list of parameters, if no word of the language stands ahead of that list. */
    private static void methodLengths(String bare) {
        Pattern method = Pattern.compile("(?s)\\w+\\s*\\([^()]*\\)\\s*");
        Pattern other = Pattern.compile("\\b(if|else|for|while|do|switch|new|record)\\b|[=>]");
        int found = 0;
        int headBegins = 0;
        for (int i = 0; i < bare.length(); i++) {
            if (bare.charAt(i) == '{') {
                String head = bare.substring(headBegins, i);
                Matcher matcher = method.matcher(head);
                if (!other.matcher(head).find() && matcher.find() && matcher.end() == head.length()) {
                    found++;
                    due.holds("short: " + head.trim(), bare.substring(i, blockEnd(bare, i)).lines().count() <= 66);
                }
            }
            if (";{}".indexOf(bare.charAt(i)) >= 0) {
                headBegins = i + 1;
            }
        }
        due.holds("methods were found", found >= FACE.split(" ").length);
    }

    private static int blockEnd(String bare, int begin) {
        int open = 0;
        for (int i = begin; i < bare.length(); i++) {
            open += bare.charAt(i) == '{' ? 1 : bare.charAt(i) == '}' ? -1 : 0;
            if (open == 0) {
                return i;
            }
        }
        return bare.length();
    }
}
