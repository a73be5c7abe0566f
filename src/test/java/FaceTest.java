import java.lang.reflect.Constructor;
import java.lang.reflect.Field;
import java.lang.reflect.Method;
import java.lang.reflect.Modifier;
import java.nio.file.Files;
import java.nio.file.Path;
import java.util.ArrayList;
import java.util.Collections;
import java.util.HashSet;
import java.util.List;
import java.util.Set;
import java.util.regex.Matcher;
import java.util.regex.Pattern;

/** The face is the document's, and the file keeps to those rules of the language that can be seen from outside. Run where README.md is. */
public final class FaceTest {
    private static final Path SOURCE = Path.of("src/main/java/StairsInSteps.java");
    private static final Path DOCUMENT = Path.of("../shared/DOC.md");
    private static int wrong = 0;

    public static void main(String[] args) throws Exception {
        Class<?> face = StairsInSteps.class;
        check("the class is public and final", Modifier.isPublic(face.getModifiers()) && Modifier.isFinal(face.getModifiers()));
        membersAreTheDocuments(face);
        faceIsWrittenAsInTheDocument();
        headsAreTheDocuments();
        classesInside(face);
        sourceKeepsToRules();
        System.out.println(wrong == 0 ? "the face is as due" : wrong + " things are not as due");
        if (wrong != 0) {
            System.exit(1);
        }
    }

    private static void check(String what, boolean right) {
        if (!right) {
            wrong++;
            System.out.println("not so: " + what);
        }
    }

    private static void membersAreTheDocuments(Class<?> face) throws Exception {
        List<String> due = new ArrayList<>();
        Matcher line = Pattern.compile("(?m)^    public (.*);$").matcher(Files.readString(DOCUMENT));
        while (line.find()) {
            due.add(line.group(1).replaceAll(" throws \\w+", "").replaceAll("(int|long|boolean) \\w+([,)])", "$1$2"));
        }
        List<String> got = new ArrayList<>();
        for (Method m : face.getDeclaredMethods()) {
            if (!Modifier.isPrivate(m.getModifiers())) {
                List<String> types = new ArrayList<>();
                for (Class<?> type : m.getParameterTypes()) {
                    types.add(type.getName());
                }
                got.add(m.getReturnType().getName() + " " + m.getName() + "(" + String.join(", ", types) + ")");
                check(m + " is public and nothing else", m.getModifiers() == Modifier.PUBLIC);
            }
        }
        for (Field f : face.getDeclaredFields()) {
            if (!Modifier.isPrivate(f.getModifiers())) {
                got.add("static final int " + f.getName() + " = " + StairsInSteps.NONE);
            }
        }
        for (Constructor<?> c : face.getDeclaredConstructors()) {
            got.add("StairsInSteps()");
            check("the constructor is public and takes nothing", Modifier.isPublic(c.getModifiers()) && c.getParameterCount() == 0);
        }
        Collections.sort(due);
        Collections.sort(got);
        check("the face is the document's: " + due + " but is " + got, due.equals(got) && due.size() == 49);
    }

    /** "The public face": each member with its names and throws, in the document's order. */
    private static void faceIsWrittenAsInTheDocument() throws Exception {
        Pattern member = Pattern.compile("(?m)^    (public .*?)(;| \\{)$");
        List<String> due = new ArrayList<>();
        Matcher line = member.matcher(Files.readString(DOCUMENT));
        while (line.find()) {
            due.add(line.group(1));
        }
        List<String> got = new ArrayList<>();
        line = member.matcher(Files.readString(SOURCE));
        while (line.find()) {
            got.add(line.group(1));
        }
        check("the face is written as in the document: " + due + " but is " + got, due.equals(got));
    }

    /** "Ahead of the calls .. the interface says: ---- ..": so does the class, and the calls stand behind it. */
    private static void headsAreTheDocuments() throws Exception {
        String source = Files.readString(SOURCE);
        Matcher head = Pattern.compile("(?m)^Ahead of the calls (.*) the interface says: (---- .*)\\.$").matcher(Files.readString(DOCUMENT));
        int heads = 0;
        while (head.find()) {
            heads++;
            int at = source.indexOf("    // " + head.group(2) + "\n");
            check("the class says " + head.group(2), at >= 0);
            int next = source.indexOf("    // ----", at + 1);
            String section = at >= 0 && next > at ? source.substring(at, next) : "";
            Matcher call = Pattern.compile("`(\\w+)`").matcher(head.group(1));
            while (call.find()) {
                check(call.group(1) + " stands behind " + head.group(2), section.matches("(?s).*\n    public \\w+ " + call.group(1) + "\\(.*"));
            }
        }
        check("the document has seven heads, not " + heads, heads == 7);
    }

    private static void classesInside(Class<?> face) {
        Set<String> names = new HashSet<>();
        for (Method m : face.getDeclaredMethods()) {
            if (Modifier.isPublic(m.getModifiers())) {
                names.add(m.getName());
            }
        }
        List<Class<?>> all = new ArrayList<>(List.of(face.getDeclaredClasses()));
        all.add(face);
        check("at most twelve classes, not " + all.size(), all.size() <= 12);
        for (Class<?> one : all) {
            check(one + " is static", one == face || Modifier.isStatic(one.getModifiers()));
            int fields = 0;
            for (Field f : one.getDeclaredFields()) {
                boolean constant = Modifier.isStatic(f.getModifiers());
                fields += constant ? 0 : 1;
                check(f + " is final", !constant || Modifier.isFinal(f.getModifiers()));
            }
            check(one + " has at most twenty fields", fields <= 20);
            for (Method m : one.getDeclaredMethods()) {
                check(m + " bears the name of a public one", Modifier.isPublic(m.getModifiers()) || !names.contains(m.getName()));
                check(m + " takes at most seven", m.getParameterCount() <= 7);
            }
        }
    }

    private static void sourceKeepsToRules() throws Exception {
        String source = Files.readString(SOURCE);
        String code = source.replaceAll("(?s)/\\*.*?\\*/", "").replaceAll("//[^\n]*", "");
        String[] forbidden = {
            "->", "::", "\\btry\\b", "\\bcatch\\b", "\\bfinally\\b", "\\bassert\\b", "\\bsynchronized\\b", "Exact\\b", "\\bpackage\\b", "static \\{",
            "\\bdouble\\b", "\\bfloat\\b", "\\bThread\\b", "\\bRandom\\b", "System\\.(?!arraycopy)", "\\bObject\\b", "getMessage", "hashCode",
            "\\bwhile \\(true\\)", "\" \\+", "\\+ \"",
        };
        for (String one : forbidden) {
            check("there is no " + one, !Pattern.compile(one).matcher(code).find());
        }
        Matcher imports = Pattern.compile("(?m)^import (.*);$").matcher(code);
        while (imports.find()) {
            check("import " + imports.group(1), Set.of("java.util.Arrays", "java.util.NoSuchElementException").contains(imports.group(1)));
        }
        int start = 0;
        String[] lines = source.split("\n");
        for (int i = 0; i < lines.length; i++) {
            check("line " + (i + 1) + " is at most 140 long", lines[i].length() <= 140);
            if (lines[i].matches(" {4,8}(public |private |static )*[\\w\\[\\]]+ \\w+\\(.*\\{")) {
                start = i;
            } else if (lines[i].matches(" {4,8}\\}") && start > 0) {
                check("the method in line " + (start + 1) + " has at most sixty lines", i - start < 60);
                start = 0;
            }
        }
    }
}
