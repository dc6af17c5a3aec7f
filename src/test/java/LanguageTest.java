import java.io.IOException;
import java.lang.reflect.Constructor;
import java.lang.reflect.Field;
import java.lang.reflect.Method;
import java.lang.reflect.Modifier;
import java.nio.charset.StandardCharsets;
import java.nio.file.Files;
import java.nio.file.Path;
import java.util.ArrayList;
import java.util.Arrays;
import java.util.List;
import java.util.Set;
import java.util.TreeSet;
import java.util.regex.Matcher;
import java.util.regex.Pattern;

/** What can be seen of LANGUAGE.md by looking at the text and the face of the class. */
public final class LanguageTest {
    private static final Path SOURCE = Path.of("src/main/java/TideCastle.java");
    private static final String FACE = "feed/5 end/1 beach/0 rule/0 force/1 cell/2 flag/2 forceOf/1"
            + " wave/0 spade/2 give/1 move/2 undo/0 way/2 ahead/3 falls/1 dig/3 rival/2 wall/2"
            + " high/2 odds/2 giveUp/2 borne/1 log/3 ruled/1 look/2 seed/1 tides/3 count/1 image/1"
            + " back/1";
    private static final String[] REFUSED = {"throw", "throws", "try", "catch", "finally",
        "synchronized", "assert", "double", "float", "package", "protected", "var", "record",
        "volatile", "transient", "native", "Object", "Class", "System\\.(?!arraycopy)\\w+",
        "\\w+Exact", "->", "::", "@", "static\\s*\\{", "MAX_VALUE", "MIN_VALUE"};

    private static int wrong = 0;

    private static void must(boolean so, String what) {
        if (!so) {
            wrong++;
            System.out.println(what);
        }
    }

    private static String withoutComments(String text) {
        return text.replaceAll("(?s)/\\*.*?\\*/", "").replaceAll("//[^\n]*", "")
                .replaceAll("\"[^\"\n]*\"", "\"\"").replaceAll("'[^'\n]'", "' '");
    }

    private static void face() {
        Set<String> want = new TreeSet<>(Arrays.asList(FACE.split(" ")));
        Set<String> have = new TreeSet<>();
        Set<String> names = new TreeSet<>();
        for (Method m : TideCastle.class.getDeclaredMethods()) {
            if (Modifier.isPublic(m.getModifiers())) {
                have.add(m.getName() + "/" + m.getParameterCount());
                names.add(m.getName());
                must(m.getReturnType() == int.class, m + " answers no int");
            } else {
                must(Modifier.isPrivate(m.getModifiers()), m + " is not private");
            }
        }
        must(have.equals(want), "the face is " + have);
        for (Class<?> c : TideCastle.class.getDeclaredClasses()) {
            must(Modifier.isStatic(c.getModifiers()), c + " is not static");
            for (Method m : c.getDeclaredMethods()) {
                must(!names.contains(m.getName()), m + " bears the name of a public method");
                must(m.getParameterCount() <= 7, m + " takes more than seven");
            }
            for (Field f : c.getDeclaredFields()) {
                must(!Modifier.isStatic(f.getModifiers()) || Modifier.isFinal(f.getModifiers()),
                        f + " is static and not final");
            }
        }
        must(TideCastle.class.getDeclaredClasses().length <= 12, "more than twelve classes");
        for (Method m : TideCastle.class.getDeclaredMethods()) {
            must(Modifier.isPublic(m.getModifiers()) || !names.contains(m.getName()),
                    m + " bears the name of a public method");
            must(m.getParameterCount() <= 7, m + " takes more than seven");
        }
        for (Field f : TideCastle.class.getDeclaredFields()) {
            must(f.getName().equals("NONE") || Modifier.isPrivate(f.getModifiers()), f + " is seen");
        }
        Constructor<?>[] made = TideCastle.class.getDeclaredConstructors();
        must(made.length == 1 && made[0].getParameterCount() == 0, "constructors");
        must(Modifier.isFinal(TideCastle.class.getModifiers()), "the class is not final");
    }

    private static void words(String code) {
        for (String word : REFUSED) {
            String edge = Character.isLetter(word.charAt(0)) ? "\\b" : "";
            Matcher m = Pattern.compile(edge + word + edge).matcher(code);
            must(!m.find(), "refused: " + word);
        }
        Matcher imports = Pattern.compile("import ([\\w.*]+);").matcher(code);
        while (imports.find()) {
            must(imports.group(1).equals("java.util.Arrays"), "imports " + imports.group(1));
        }
    }

    private static void lengths(List<String> lines) {
        int start = -1;
        String indent = "";
        for (int i = 0; i < lines.size(); i++) {
            String line = lines.get(i);
            must(line.length() <= 100, "line " + (i + 1) + " is long");
            Matcher m = Pattern.compile("^(    |        )(?=\\S)[\\w \\[\\]]+\\([^()]*\\) \\{$").matcher(line);
            if (start < 0 && m.find()) {
                start = i;
                indent = m.group(1);
            } else if (start >= 0 && line.equals(indent + "}")) {
                must(i - start < 60, "the method of line " + (start + 1) + " is long");
                start = -1;
            }
        }
        must(start < 0, "a method without an end");
    }

    public static void main(String[] args) throws IOException {
        String text = Files.readString(SOURCE, StandardCharsets.US_ASCII);
        face();
        words(withoutComments(text));
        lengths(new ArrayList<>(Arrays.asList(text.split("\n"))));
        System.out.println(wrong == 0 ? "the language is kept to" : wrong + " rules broken");
        if (wrong != 0) {
            System.exit(1);
        }
    }
}
