import java.io.IOException;
import java.lang.reflect.Constructor;
import java.lang.reflect.Field;
import java.lang.reflect.Member;
import java.lang.reflect.Method;
import java.lang.reflect.Modifier;
import java.nio.file.Files;
import java.nio.file.Path;
import java.util.ArrayList;
import java.util.Arrays;
import java.util.List;
import java.util.Set;
import java.util.TreeSet;
import java.util.regex.Matcher;
import java.util.regex.Pattern;

/** The public face, and the rules of LANGUAGE.md that can be seen in the class and its source. */
public final class EditTreeLanguage {
    private static final String[] FACE = {"append 1", "clearClip 0", "insert 1", "delete 2", "undo 0",
        "redo 0", "jump 1", "undoEdit 1", "conflictWith 1", "current 0", "nodeCount 0", "lengthOf 1",
        "characterOf 2", "editOf 1", "parentOf 1", "childOf 2", "favouriteOf 1", "timeOf 1",
        "commonAncestor 2", "distance 2", "setMark 2", "clearMark 1", "goToMark 1", "oldestLeaf 0",
        "forget 1", "digest 0"};
    private static final String[] CONSTANTS = {"OUT_OF_RANGE", "NO_SUCH_NODE", "TREE_FULL",
        "TEXT_FULL", "CONFLICT", "WRONG_NODE", "NONE"};
    private static final String[] FORBIDDEN = {"\\bthrow\\b", "\\bthrows\\b", "\\btry\\b", "\\bcatch\\b",
        "\\bsynchronized\\b", "\\bassert\\b", "->", "::", "\\bimport\\b", "\\bpackage\\b",
        "\\b\\w+Exact\\b", "\\bstatic \\{", "\\bnanoTime\\b", "\\bcurrentTimeMillis\\b"};
    private static final Set<String> LIBRARY = Set.of("String", "StringBuilder", "ArrayList", "List",
            "Integer", "Long", "Math", "Iterator", "Iterable", "Comparable", "System", "Arrays", "Override");
    private static final int PARAMETER_LIMIT = 7;
    private static final int CLASS_LIMIT = 12;
    private static final int FIELD_LIMIT = 20;
    private static int wrong = 0;

    public static void main(String[] args) throws IOException {
        face();
        constants();
        hiddenMembers();
        sizes();
        source(Path.of(args.length > 0 ? args[0] : "src/main/java/EditTree.java"));
        if (wrong > 0) {
            System.exit(1);
        }
    }

    private static void hold(boolean holds, String rule) {
        if (!holds) {
            wrong++;
            System.out.println(rule);
        }
    }

    private static void face() {
        int modifiers = EditTree.class.getModifiers();
        hold(Modifier.isPublic(modifiers) && Modifier.isFinal(modifiers), "the class is public and final");
        Set<String> found = new TreeSet<>();
        for (Method method : EditTree.class.getDeclaredMethods()) {
            if (Modifier.isPublic(method.getModifiers())) {
                found.add(method.getName() + " " + method.getParameterCount());
                checkSignature(method);
            }
        }
        hold(found.equals(new TreeSet<>(Arrays.asList(FACE))), "the public methods are those of the document: " + found);
        Constructor<?>[] constructors = EditTree.class.getDeclaredConstructors();
        hold(constructors.length == 1 && Modifier.isPublic(constructors[0].getModifiers())
                && constructors[0].getParameterCount() == 0, "one public constructor without arguments");
    }

    private static void checkSignature(Method method) {
        Class<?> due = method.getName().equals("digest") ? long.class : int.class;
        hold(method.getReturnType() == due, method.getName() + " returns " + due);
        hold(!Modifier.isStatic(method.getModifiers()), method.getName() + " is not static");
        for (Class<?> type : method.getParameterTypes()) {
            hold(type == int.class, method.getName() + " takes int");
        }
    }

    private static void constants() {
        Set<String> found = new TreeSet<>();
        for (Field field : EditTree.class.getDeclaredFields()) {
            if (Modifier.isPublic(field.getModifiers())) {
                found.add(field.getName());
                hold(field.getType() == int.class && Modifier.isStatic(field.getModifiers())
                        && Modifier.isFinal(field.getModifiers()), field.getName() + " is a constant int");
            }
        }
        hold(found.equals(new TreeSet<>(Arrays.asList(CONSTANTS))), "the public constants are those of the document: " + found);
    }

    private static void hiddenMembers() {
        List<Member> members = new ArrayList<>(Arrays.asList(EditTree.class.getDeclaredMethods()));
        members.addAll(Arrays.asList(EditTree.class.getDeclaredFields()));
        for (Member member : members) {
            int modifiers = member.getModifiers();
            hold(Modifier.isPublic(modifiers) || Modifier.isPrivate(modifiers), member.getName() + " is public or private");
        }
        for (Class<?> inside : EditTree.class.getDeclaredClasses()) {
            hold(Modifier.isStatic(inside.getModifiers()), inside.getName() + " is static");
            noPublicNames(inside.getDeclaredMethods());
        }
        noPublicNames(EditTree.class.getDeclaredMethods());
    }

    private static void sizes() {
        List<Class<?>> classes = new ArrayList<>(Arrays.asList(EditTree.class.getDeclaredClasses()));
        classes.add(EditTree.class);
        hold(classes.size() <= CLASS_LIMIT, "at most " + CLASS_LIMIT + " classes");
        for (Class<?> one : classes) {
            for (Method method : one.getDeclaredMethods()) {
                hold(method.getParameterCount() <= PARAMETER_LIMIT, method.getName() + " takes few parameters");
            }
            int fields = 0;
            for (Field field : one.getDeclaredFields()) {
                boolean shared = Modifier.isStatic(field.getModifiers());
                hold(!shared || Modifier.isFinal(field.getModifiers()), field.getName() + " is no shared state");
                fields += shared ? 0 : 1;
            }
            hold(fields <= FIELD_LIMIT, one.getName() + " has at most " + FIELD_LIMIT + " fields");
        }
    }

    private static void noPublicNames(Method[] methods) {
        for (Method method : methods) {
            for (String called : FACE) {
                boolean same = called.startsWith(method.getName() + " ");
                hold(!same || Modifier.isPublic(method.getModifiers()), method.getName() + " bears a public name");
            }
        }
    }

    private static void source(Path path) throws IOException {
        String text = Files.readString(path).replaceAll("(?s)/\\*.*?\\*/", "").replaceAll("//[^\n]*", "");
        for (String word : FORBIDDEN) {
            Matcher matcher = Pattern.compile(word).matcher(text);
            hold(!matcher.find(), "the source has " + word);
        }
        Set<String> known = new TreeSet<>(LIBRARY);
        known.add("EditTree");
        for (Class<?> inside : EditTree.class.getDeclaredClasses()) {
            known.add(inside.getSimpleName());
        }
        Matcher named = Pattern.compile("\\b[A-Z]\\w*[a-z]\\w*").matcher(text);
        while (named.find()) {
            hold(known.contains(named.group()), "the source names " + named.group());
        }
    }
}
