import java.io.IOException;
import java.lang.reflect.Constructor;
import java.lang.reflect.Field;
import java.lang.reflect.Method;
import java.lang.reflect.Modifier;
import java.nio.file.Files;
import java.nio.file.Path;
import java.util.Arrays;
import java.util.List;
import java.util.TreeSet;
import java.util.regex.Matcher;
import java.util.regex.Pattern;

/** What of LANGUAGE.md can be seen from the class and its text. The text's path is the argument. */
public final class RuleRuns {
    private static final List<String> FACE = List.of("boolean begin(int)", "boolean end(int)", "boolean map(int,int)",
        "boolean meter(int,int,int)", "int best()", "int check(int,int)", "int count(int)", "int feed(int,int,int,int,int)",
        "int height(int)", "int likely()", "int move(int,int)", "int path(int)", "int read(int)", "int route(int)",
        "int span(int)", "int twin()", "int twins()", "long share(int,int)");
    private static final String[] BANNED = {"->", "::", "\\bfinally\\b", "\\bsynchronized\\b", "\\bassert\\b", "\\bcatch\\b",
        "Exact\\b", "\\bprotected\\b", "\\bthis\\)", "\\bthis,", "\\bstatic \\{", "\\bpackage\\b", "@", "\\bMath\\.(?!abs|min|max)",
        "\\bSystem\\.(?!arraycopy)", "\\bNullPointer", "\\bArrayIndex", "[^\\x00-\\x7f]"};

    private static int wrong = 0;

    private static void hold(boolean holds, String what) {
        if (!holds) {
            wrong++;
            System.out.println("rule broken: " + what);
        }
    }

    private static String told(Method m) {
        StringBuilder types = new StringBuilder();
        for (Class<?> type : m.getParameterTypes()) {
            types.append(types.length() == 0 ? "" : ",").append(type.getName());
        }
        return m.getReturnType().getName() + " " + m.getName() + "(" + types + ")";
    }

    private static void faceStands() {
        TreeSet<String> open = new TreeSet<>();
        TreeSet<String> names = new TreeSet<>();
        for (Method m : HillFinder.class.getDeclaredMethods()) {
            if (!Modifier.isPrivate(m.getModifiers()) && !m.isSynthetic()) {
                open.add(told(m));
                names.add(m.getName());
                hold(Modifier.isPublic(m.getModifiers()), "1: " + m + " is neither public nor private");
            }
        }
        for (Method m : HillFinder.class.getDeclaredMethods()) {
            hold(!Modifier.isPrivate(m.getModifiers()) || !names.contains(m.getName()), "1: private and public " + m.getName());
        }
        hold(open.equals(new TreeSet<>(FACE)), "1: the face is " + open);
        for (Field f : HillFinder.class.getDeclaredFields()) {
            hold(Modifier.isPrivate(f.getModifiers()) || f.getName().equals("NONE"), "1: field " + f);
        }
        Constructor<?>[] constructors = HillFinder.class.getDeclaredConstructors();
        hold(constructors.length == 1 && constructors[0].getParameterCount() == 0, "1: constructors");
        hold(Modifier.isFinal(HillFinder.class.getModifiers()), "1: final");
    }

    private static void insidesStand() {
        Class<?>[] inside = HillFinder.class.getDeclaredClasses();
        hold(inside.length <= 12, "11: classes");
        for (Class<?> c : inside) {
            hold(Modifier.isStatic(c.getModifiers()) && !Modifier.isPublic(c.getModifiers()), "1: class " + c);
            long fields = Arrays.stream(c.getDeclaredFields()).filter(f -> !Modifier.isStatic(f.getModifiers())).count();
            hold(fields <= 20, "11: fields of " + c);
            for (Field f : c.getDeclaredFields()) {
                hold(!Modifier.isStatic(f.getModifiers()) || Modifier.isFinal(f.getModifiers()), "5: " + f);
            }
            for (Method m : c.getDeclaredMethods()) {
                hold(m.getParameterCount() <= 7, "11: " + m);
            }
        }
    }

    private static void textStands(String text) {
        String bare = text.replaceAll("(?s)/\\*.*?\\*/", "").replaceAll("//[^\n]*", "");
        for (String banned : BANNED) {
            Matcher m = Pattern.compile(banned).matcher(bare);
            hold(!m.find(), "the text has " + banned);
        }
        Matcher imports = Pattern.compile("(?m)^import (.*);").matcher(bare);
        while (imports.find()) {
            hold(imports.group(1).equals("java.util.NoSuchElementException"), "4: import " + imports.group(1));
        }
        Matcher news = Pattern.compile("(?m)^(.*)\\bnew .*$").matcher(bare);
        while (news.find()) {
            String line = news.group().trim();
            boolean field = line.startsWith("private final ");
            boolean inConstructor = line.matches("\\w+ = new \\w+\\([\\w, ]*\\);");
            hold(field || inConstructor || line.startsWith("throw new"), "12: made outside a constructor: " + line);
        }
        int depthOfMethod = 0;
        for (String line : bare.split("\n")) {
            depthOfMethod = line.matches(" {4}( {4})?\\}") ? 0 : depthOfMethod + 1;
            hold(depthOfMethod < 75 || line.isBlank(), "11: a long method at " + line);
        }
    }

    public static void main(String[] args) throws IOException {
        faceStands();
        insidesStand();
        textStands(Files.readString(Path.of(args.length > 0 ? args[0] : "src/main/java/HillFinder.java")));
        System.out.println("RuleRuns: " + wrong + " rules broken");
        if (wrong != 0) {
            System.exit(1);
        }
    }
}
