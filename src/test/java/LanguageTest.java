import java.io.IOException;
import java.lang.reflect.Constructor;
import java.lang.reflect.Field;
import java.lang.reflect.Method;
import java.lang.reflect.Modifier;
import java.nio.file.Files;
import java.nio.file.Path;
import java.util.List;
import java.util.Map;
import java.util.Set;
import java.util.TreeMap;
import java.util.TreeSet;
import java.util.regex.Matcher;
import java.util.regex.Pattern;

/** The face as the document has it, and those rules of LANGUAGE.md that can be seen from the text. */
public final class LanguageTest {
    private static final Check check = new Check();
    private static final String FACE = """
        row int int int; set int int long; copy int int int int int; element int int; holds int; show int int;
        says int int; player int int int; tell int int int; line int int; ask int int; feed int; wipe; rink;
        playerOf int int; lineOf int int; power; odds int; way int; behind int int; gains int; tiredest int;
        fresh int int; third int; theirsFor int; five; two int int int; shifts int int; bestShift int;
        changeNow int int; where int int; meets int int; match int int int; pull int int; minutes int; penalty int;
        judge int int; booked int int int int; best int; rests int; whistle int; change int; skate int; game int;
        pause int; seed int; image; back; status int""";

    public static void main(String[] args) throws IOException {
        face();
        nestedClasses();
        words(Files.readString(Path.of("src/main/java/OverTheBoards.java")));
        lengths(Files.readAllLines(Path.of("src/main/java/OverTheBoards.java")));
        depths(Files.readString(Path.of("src/main/java/OverTheBoards.java")));
        check.end("LanguageTest");
    }

    private static void face() throws IOException {
        Set<String> want = new TreeSet<>();
        for (String call : FACE.split(";")) want.add(call.trim().replaceAll("\\s+", " "));
        Set<String> got = new TreeSet<>();
        Set<String> hidden = new TreeSet<>();
        for (Method m : OverTheBoards.class.getDeclaredMethods()) {
            StringBuilder b = new StringBuilder(m.getName());
            for (Class<?> p : m.getParameterTypes()) b.append(' ').append(p.getName());
            if (Modifier.isPrivate(m.getModifiers())) hidden.add(m.getName());
            else got.add(b.toString());
            boolean isLong = m.getName().equals("element");
            if (Modifier.isPublic(m.getModifiers())) {
                check.due("type of " + b, m.getReturnType() == (isLong ? long.class : int.class) ? 1 : 0, 1);
            }
            check.due("parameters of " + b, m.getParameterCount() <= 7 ? 1 : 0, 1);
        }
        due("the face is the document's: " + got, got.equals(want));
        faceOfDocument(want);
        for (String call : want) due("hidden method named " + call, !hidden.contains(call.split(" ")[0]));
        for (Field f : OverTheBoards.class.getDeclaredFields()) {
            due("field " + f.getName(), Modifier.isPrivate(f.getModifiers()) || f.getName().equals("NONE"));
            if (Modifier.isStatic(f.getModifiers())) due("final " + f.getName(), Modifier.isFinal(f.getModifiers()));
        }
        Constructor<?>[] made = OverTheBoards.class.getDeclaredConstructors();
        due("one constructor", made.length == 1 && made[0].getParameterCount() == 0);
        due("the class is final", Modifier.isFinal(OverTheBoards.class.getModifiers()));
    }

    private static void faceOfDocument(Set<String> want) throws IOException {
        Document document = Document.find("LanguageTest");
        if (document == null) return;
        Set<String> told = new TreeSet<>();
        Matcher m = Pattern.compile("public (int|long) (\\w+)\\((.*?)\\);").matcher(document.face());
        while (m.find()) {
            told.add((m.group(2) + " " + m.group(3).replaceAll("(\\w+) \\w+,? *", "$1 ")).trim());
            due("only element tells a long: " + m.group(2), m.group(1).equals("long") == m.group(2).equals("element"));
        }
        due("the document's face is still the one that is held here: " + told, told.equals(want));
    }

    private static void nestedClasses() {
        Class<?>[] inside = OverTheBoards.class.getDeclaredClasses();
        due("twelve classes at most", inside.length <= 12);
        for (Class<?> c : inside) {
            due(c + " is static", Modifier.isStatic(c.getModifiers()));
            due(c + " is hidden", !Modifier.isPublic(c.getModifiers()));
            int fields = 0;
            for (Field f : c.getDeclaredFields()) if (!Modifier.isStatic(f.getModifiers())) fields++;
            due(c + " has twenty fields at most", fields <= 20);
            for (Method m : c.getDeclaredMethods()) {
                due("no call of the face: " + m.getName(), !(" " + FACE + ";").matches("(?s).*[ \\n]" + m.getName() + "[ ;].*"));
            }
        }
    }

    private static void words(String text) {
        String code = text.replaceAll("(?s)/\\*.*?\\*/", "").replaceAll("//[^\n]*", "");
        for (String word : List.of("throw", "throws", "try", "catch", "finally", "synchronized", "assert", "native",
                "Object", "Random", "System\\.(?!arraycopy)\\w+", "\\w+Exact", "double", "float", "instanceof")) {
            due("no " + word, !Pattern.compile("\\b(" + word + ")\\b").matcher(code).find());
        }
        for (String sign : List.of("->", "::", "@")) due("no " + sign, !code.contains(sign));
        for (int i = 0; i < text.length(); i++) if (text.charAt(i) > 126) due("sign at " + i, false);
        Matcher imports = Pattern.compile("(?m)^import (.*);$").matcher(code);
        while (imports.find()) due("import " + imports.group(1), imports.group(1).equals("java.util.Arrays"));
        // all that is ever made is made with the object: fields' own, and the shelves of the constructor
        for (String line : code.split("\n")) {
            if (line.contains("new ")) due(line.trim(), line.contains("final") || line.contains("shelves[s] = new Shelf()"));
        }
    }

    private static void lengths(List<String> lines) {
        int begun = -1;
        for (int i = 0; i < lines.size(); i++) {
            if (lines.get(i).matches("(    |        )(public|private) .*\\) \\{")) begun = i;
            if (lines.get(i).matches("(    |        )\\}") && begun >= 0) {
                due("length of the method at " + (begun + 1), i - begun <= 60);
                begun = -1;
            }
        }
    }

    /** By names alone: methods of one name count as one, and a call of the library as one level more. */
    private static void depths(String text) {
        String code = text.replaceAll("(?s)/\\*.*?\\*/", "").replaceAll("//[^\n]*", "");
        Matcher m = Pattern.compile("(?ms)^(    |        )(?:public|private)(?: static)? [\\w\\[\\]]+ (\\w+)\\([^)]*\\) \\{\n(.*?)^\\1\\}")
            .matcher(code);
        Map<String, Set<String>> calls = new TreeMap<>();
        while (m.find()) {
            Set<String> called = calls.computeIfAbsent(m.group(2), name -> new TreeSet<>());
            Matcher call = Pattern.compile("\\b(?!if\\b|for\\b|while\\b|switch\\b|return\\b)(\\w+)\\(").matcher(m.group(3));
            while (call.find()) called.add(call.group(1));
        }
        due("methods were found", calls.size() > 100);
        for (String name : calls.keySet()) due("calls of " + name + " go eight deep at most", depth(calls, name, 0) <= 8);
    }

    private static int depth(Map<String, Set<String>> calls, String name, int above) {
        int most = 0;
        if (above > 20) return 0;
        for (String next : calls.getOrDefault(name, Set.of())) most = Math.max(most, depth(calls, next, above + 1));
        return most + 1;
    }

    private static void due(String what, boolean holds) {
        check.due(what, holds ? 1 : 0, 1);
    }
}
