import java.lang.reflect.Constructor;
import java.lang.reflect.Field;
import java.lang.reflect.Member;
import java.lang.reflect.Method;
import java.lang.reflect.Modifier;
import java.nio.file.Files;
import java.nio.file.Path;
import java.util.ArrayList;
import java.util.Arrays;
import java.util.HashSet;
import java.util.List;
import java.util.Set;
import java.util.TreeSet;
import java.util.regex.Matcher;
import java.util.regex.Pattern;

/** The public face is the document's and no more, and the source keeps off what the language rules out. */
public final class FaceTest {
    private static final List<String> FACE = List.of(
        "public int AttackBench.arguments()",
        "public boolean AttackBench.attack(int,int,boolean)",
        "public int AttackBench.attackedBy(int)",
        "public boolean AttackBench.attacks(int,int)",
        "public int AttackBench.circle(int)",
        "public int AttackBench.circles()",
        "public int AttackBench.claim()",
        "public int AttackBench.count(int) throws java.lang.IllegalArgumentException",
        "public int AttackBench.defendedBy(int)",
        "public int AttackBench.dialogue(int) throws java.lang.IllegalArgumentException",
        "public int AttackBench.grounded()",
        "public boolean AttackBench.holds(int,int,boolean) throws java.lang.IllegalArgumentException",
        "public int AttackBench.ideal()",
        "public boolean AttackBench.is(int,int)",
        "public boolean AttackBench.isFree(int)",
        "public int AttackBench.joint(int,int,int)",
        "public int AttackBench.label(int) throws java.lang.IllegalArgumentException,"
            + "java.lang.IllegalStateException",
        "public int AttackBench.move(int,int)",
        "public int AttackBench.next() throws java.lang.IllegalStateException",
        "public int AttackBench.round(int)",
        "public void AttackBench.start(int) throws java.lang.IllegalArgumentException",
        "public int AttackBench.support(int,int)");

    private static final List<String> LIBRARY = List.of("java.util.ArrayList", "java.util.Arrays",
        "java.util.Iterator", "java.util.List", "java.util.NoSuchElementException");

    // What no rule leaves room for; a try, a list and their like are allowed, if not used here.
    private static final List<String> RULED_OUT = List.of(
        "(?m)^(?!\\s*(case|default)\\b).*->", "::", "\\bsynchronized\\b", "\\bassert\\b", "\\bfinally\\b",
        "\\btry\\s*\\(", "getMessage", "Exact\\(", "\\bThread\\b", "\\bRandom\\b", "System\\.(?!arraycopy)",
        "static\\s*\\{",
        "catch\\s*\\((ArrayIndexOutOfBounds|NullPointer|ClassCast|NegativeArraySize|ArrayStore)?Exception",
        "catch\\s*\\((Throwable|Error)");

    private FaceTest() {
    }

    public static void main(String[] args) throws Exception {
        methods();
        fieldsAndConstructors();
        nestedClasses();
        if (args.length > 0) {
            source(Files.readString(Path.of(args[0])));
        }
        if (args.length > 1) {
            words(Files.readString(Path.of(args[0])), Files.readString(Path.of(args[1])));
        }
        Due.close();
    }

    private static void methods() {
        Set<String> seen = new TreeSet<>();
        Set<String> publicNames = new HashSet<>();
        for (Method m : AttackBench.class.getDeclaredMethods()) {
            if (Modifier.isPublic(m.getModifiers())) {
                seen.add(m.toString());
                publicNames.add(m.getName());
            }
        }
        Due.yes("the face is " + seen, seen.equals(new TreeSet<>(FACE)));
        for (Class<?> c : classes()) {
            for (Method m : c.getDeclaredMethods()) {
                Due.no(m + " is private and bears the name of a public one",
                    Modifier.isPrivate(m.getModifiers()) && publicNames.contains(m.getName()));
                Due.yes(m + " takes seven at most", m.getParameterCount() <= 7);
            }
        }
    }

    private static void fieldsAndConstructors() {
        List<Member> open = new ArrayList<>();
        for (Field f : AttackBench.class.getDeclaredFields()) {
            if (!Modifier.isPrivate(f.getModifiers())) {
                open.add(f);
            }
        }
        for (Method m : AttackBench.class.getDeclaredMethods()) {
            int mods = m.getModifiers();
            if (!Modifier.isPublic(mods) && !Modifier.isPrivate(mods)) {
                open.add(m);
            }
        }
        Due.is("members of no more than private sight but the face: " + open, 1, open.size());
        Due.yes("NONE is that one", open.size() == 1 && open.get(0).getName().equals("NONE"));
        Constructor<?>[] constructors = AttackBench.class.getDeclaredConstructors();
        Due.is("constructors", 1, constructors.length);
        Due.yes("it is public", Modifier.isPublic(constructors[0].getModifiers()));
        Due.yes("the class is public and final",
            (AttackBench.class.getModifiers() & (Modifier.PUBLIC | Modifier.FINAL))
                == (Modifier.PUBLIC | Modifier.FINAL));
    }

    private static void nestedClasses() {
        Due.yes("at most twelve classes", classes().size() <= 12);
        for (Class<?> c : classes()) {
            int ownFields = 0;
            for (Field f : c.getDeclaredFields()) {
                if (Modifier.isStatic(f.getModifiers())) {
                    Due.yes(f + " is a constant", Modifier.isFinal(f.getModifiers()));
                } else {
                    ownFields++;
                }
            }
            Due.yes(c + " has some twenty fields at most", ownFields <= 20);
            Due.yes(c + " is static", c == AttackBench.class || Modifier.isStatic(c.getModifiers()));
        }
    }

    private static List<Class<?>> classes() {
        List<Class<?>> all = new ArrayList<>(Arrays.asList(AttackBench.class.getDeclaredClasses()));
        all.add(AttackBench.class);
        return all;
    }

    /** The document's code block, line by line, with the names of the parameters and what is thrown. */
    private static void words(String source, String document) {
        Matcher block = Pattern.compile("(?s)```java\n(.*?)```").matcher(document);
        boolean found = block.find();
        Due.yes("the document has the public face", found);
        int members = 0;
        for (String line : found ? block.group(1).split("\n") : new String[0]) {
            String member = line.strip();
            if (member.endsWith(";")) {
                String head = member.substring(0, member.length() - 1);
                members++;
                Due.yes("the source has '" + head + "'",
                    source.contains("\n    " + head + " {\n") || source.contains("\n    " + member + "\n"));
            }
        }
        Due.is("members of the face, with the constructor and NONE", FACE.size() + 2, members);
    }

    private static void source(String text) {
        String code = text.replaceAll("(?s)/\\*.*?\\*/", "").replaceAll("//[^\n]*", "");
        for (String shape : RULED_OUT) {
            Due.no("the source has '" + shape + "'", Pattern.compile(shape).matcher(code).find());
        }
        Due.no("the source has a package", code.stripLeading().startsWith("package "));
        Matcher imports = Pattern.compile("\\bimport\\s+([^;]+);").matcher(code);
        while (imports.find()) {
            Due.yes("import of " + imports.group(1), LIBRARY.contains(imports.group(1)));
        }
        for (char c : text.toCharArray()) {
            if (c > 255) {
                Due.no("the source has the character " + (int) c, true);
            }
        }
    }
}
