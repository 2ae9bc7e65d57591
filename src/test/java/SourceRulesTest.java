import java.io.IOException;
import java.lang.reflect.Member;
import java.lang.reflect.Method;
import java.lang.reflect.Modifier;
import java.nio.file.Files;
import java.nio.file.Path;
import java.util.ArrayList;
import java.util.Arrays;
import java.util.List;
import java.util.Set;
import java.util.TreeSet;
import java.util.regex.Matcher;
import java.util.regex.Pattern;

/** The rules of LANGUAGE.md that a program can see: words that may not stand, the face, sizes. */
public final class SourceRulesTest {
    private static final Path SOURCE = Path.of("src/main/java/CommaOrphans.java");
    private static final Path DOCUMENT = Path.of("../shared/DOC.md");
    private static final List<String> FORBIDDEN = List.of("\\bthrow\\b", "\\bthrows\\b", "\\btry\\b", "\\bcatch\\b",
        "\\bsynchronized\\b", "\\bassert\\b", "->", "::", "\\bpackage\\b", "\\bprotected\\b", "Exact\\b",
        "System\\.(?!arraycopy\\b)", "\\bThread\\b", "\\bRandom\\b", "\\bhashCode\\b", "\\btoString\\b",
        "import (?!java\\.util\\.Arrays;)", "Arrays\\.(?!(fill|copyOf|copyOfRange)\\b)", "\\bvar\\b", "\\bgoto\\b");
    private static final String FACE = "apprentice at buy can clear day end fault feed fewest hurts image liars look of "
        + "own page pays print roll set sign state swap text undo word";

    private final Check check = new Check("SourceRulesTest");

    public static void main(String[] args) throws IOException {
        SourceRulesTest test = new SourceRulesTest();
        String source = Files.readString(SOURCE);
        test.words(source);
        test.methods(source);
        test.face();
        test.faceAsTold(Files.readString(DOCUMENT));
        test.check.close();
    }

    private void words(String source) {
        String bare = source.replaceAll("(?s)/\\*.*?\\*/", "").replaceAll("\"[^\"\n]*\"", "\"\"");
        for (String word : FORBIDDEN) {
            check.due(word + " stands in the source", Pattern.compile(word).matcher(bare).find(), false);
        }
        check.due("signs of the source are 10, 32 .. 126", source.chars().allMatch(c -> c == 10 || c > 31 && c < 127), true);
        check.due("classes", Pattern.compile("\\bclass \\w+ \\{").matcher(bare).results().count() <= 12, true);
    }

    /** A method begins with a line that ends in ") {" behind a name, and ends with a brace as deep as it. */
    private void methods(String source) {
        String[] lines = source.split("\n");
        Pattern head = Pattern.compile("^( +)(?:(?:public|private|static|final) )*[\\w\\[\\]]+ (\\w+)\\(([^()]*)\\) \\{$");
        for (int i = 0; i < lines.length; i++) {
            Matcher m = head.matcher(lines[i]);
            if (!m.matches()) {
                continue;
            }
            int end = i;
            while (!lines[end].equals(m.group(1) + "}")) {
                end++;
            }
            check.due(m.group(2) + " is at most 60 lines long", end - i < 60, true);
            check.due(m.group(2) + " takes at most seven", m.group(3).split(",").length <= 7, true);
        }
    }

    private void face() {
        Set<String> seen = new TreeSet<>();
        for (Method m : CommaOrphans.class.getDeclaredMethods()) {
            if (Modifier.isPublic(m.getModifiers())) {
                seen.add(m.getName());
            }
            seePrivate(m);
        }
        for (Method m : CommaOrphans.class.getDeclaredMethods()) {
            boolean hidden = !Modifier.isPublic(m.getModifiers());
            check.due(m + " is private and named like a public one", hidden && seen.contains(m.getName()), false);
        }
        check.due("the face is " + seen, seen.equals(new TreeSet<>(Arrays.asList(FACE.split(" ")))), true);
        Arrays.stream(CommaOrphans.class.getDeclaredFields()).filter(f -> !f.getName().equals("NONE"))
            .forEach(this::seePrivate);
        check.due("final", Modifier.isFinal(CommaOrphans.class.getModifiers()), true);
        for (Class<?> inside : CommaOrphans.class.getDeclaredClasses()) {
            check.due(inside + " is static", Modifier.isStatic(inside.getModifiers()), true);
            check.due(inside + " has at most twenty fields", Arrays.stream(inside.getDeclaredFields())
                .filter(f -> !Modifier.isStatic(f.getModifiers())).count() <= 20, true);
            for (Method m : inside.getDeclaredMethods()) {
                check.due(inside + " has " + m.getName(), seen.contains(m.getName()), false);
            }
        }
    }

    /** The document tells the face as Java: each line of it must be there, and no other public member. */
    private void faceAsTold(String document) {
        Set<String> told = new TreeSet<>();
        Matcher m = Pattern.compile("(?m)^    public ([^;]+);$").matcher(document);
        while (m.find()) {
            told.add(m.group(1).replaceAll("(int|boolean) \\w+(?=[,)])", "$1").replace(", ", ",").replaceAll(" = .*", ""));
        }
        Set<String> seen = new TreeSet<>();
        List<Member> members = new ArrayList<>(List.of(CommaOrphans.class.getDeclaredMethods()));
        members.addAll(List.of(CommaOrphans.class.getDeclaredConstructors()));
        members.addAll(List.of(CommaOrphans.class.getDeclaredFields()));
        for (Member member : members) {
            if (Modifier.isPublic(member.getModifiers())) {
                seen.add(member.toString().replace("public ", "").replaceAll("CommaOrphans\\.(?=\\w)", ""));
            }
        }
        check.due("as many lines as the face has", told.size(), 29);
        check.due("the document tells " + told + ", the class has " + seen, told.equals(seen), true);
    }

    private void seePrivate(Member m) {
        boolean ofFace = Modifier.isPublic(m.getModifiers()) && FACE.contains(m.getName());
        check.due(m + " is private", ofFace || Modifier.isPrivate(m.getModifiers()), true);
    }
}
