import java.io.IOException;
import java.nio.file.Files;
import java.nio.file.Path;
import java.util.ArrayList;
import java.util.HashMap;
import java.util.HashSet;
import java.util.List;
import java.util.Map;
import java.util.Set;
import java.util.TreeMap;
import java.util.TreeSet;
import java.util.regex.Matcher;
import java.util.regex.Pattern;

/** Rules of LANGUAGE.md that can be seen in the text of the class. Run where src is. */
public final class LanguageTest {
    private static final Path SOURCE = Path.of("src/main/java/LiquoriceRoads.java");
    private static final Pattern HEAD = Pattern.compile(
        "^ +((?:public |private |static |final )*)([\\w\\[\\]]+ )?(\\w+)\\((.*)\\) \\{$");
    private static final Pattern CALL = Pattern.compile("(?<!new )\\b(\\w+)\\(");
    private static final int MOST_LINES = 60;
    private static final int MOST_CLASSES = 12;
    private static final int MOST_DEEP = 8;

    private final Due due = new Due();
    private final List<String> lines = new ArrayList<>();
    private final Map<String, Set<String>> calls = new TreeMap<>();
    private final Set<String> open = new TreeSet<>();
    private final Set<String> closed = new TreeSet<>();

    private LanguageTest() {
    }

    public static void main(String[] args) throws IOException {
        LanguageTest test = new LanguageTest();
        test.readSource();
        test.looksAtWords();
        test.looksAtMethods();
        test.looksAtNames();
        test.looksAtDepth();
        test.due.close();
    }

    /** Comments and texts are taken out: the rules are about what stands between them. */
    private void readSource() throws IOException {
        String all = Files.readString(SOURCE);
        due.same("signs are 0 to 127", all.chars().allMatch(c -> c < 128), true);
        String bare = all.replaceAll("(?s)/\\*.*?\\*/", "").replaceAll("\"[^\"]*\"", "\"\"").replaceAll("//.*", "");
        lines.addAll(List.of(bare.split("\n")));
    }

    private void looksAtWords() {
        String all = String.join("\n", lines);
        for (String word : List.of("throw", "try", "catch", "synchronized", "assert", "package", "protected", "volatile", "transient",
            "native", "throws", "Object", "hashCode", "toString", "Random", "Thread", "Exact", "var")) {
            due.same("no " + word, Pattern.compile("\\b\\w*" + word + "\\b").matcher(all).find(), false);
        }
        due.same("no lambda", all.contains("->"), false);
        due.same("no method reference", all.contains("::"), false);
        due.same("one import", all.split("import ", -1).length, 2);
        due.same("of Arrays", all.startsWith("import java.util.Arrays;"), true);
        due.same("System for arraycopy alone", all.replace("System.arraycopy(", "").contains("System"), false);
        due.same("Arrays for fill alone", all.replace("java.util.Arrays;", "").replace("Arrays.fill(", "").contains("Arrays"), false);
        due.same("classes", all.split("\\bclass ", -1).length - 1 <= MOST_CLASSES, true);
    }

    private void looksAtMethods() {
        for (int i = 0; i < lines.size(); i++) {
            Matcher head = HEAD.matcher(lines.get(i));
            if (!head.matches() || lines.get(i).matches(" *(\\} else )?(if|for|while|switch) .*") || lines.get(i).contains("} else")) {
                continue;
            }
            int indent = lines.get(i).indexOf(lines.get(i).trim());
            int end = i;
            while (!lines.get(end).equals(" ".repeat(indent) + "}")) {
                end++;
            }
            String name = head.group(3);
            due.same(name + " has " + (end - i + 1) + " lines", end - i + 1 <= MOST_LINES, true);
            due.same(name + " takes few", head.group(4).split(",").length <= 7, true);
            boolean outside = indent == 4 && head.group(1).contains("public");
            if (head.group(2) != null) {
                (outside ? open : closed).add(name);
            }
            Set<String> called = calls.computeIfAbsent(name, k -> new HashSet<>());
            Matcher call = CALL.matcher(String.join("\n", lines.subList(i + 1, end)));
            while (call.find()) {
                called.add(call.group(1));
            }
            i = end;
        }
    }

    private void looksAtNames() {
        due.same("the face", open.size(), 47);
        for (String name : closed) {
            due.same(name + " is no name of the face", open.contains(name), false);
        }
    }

    /** Methods that call one another count as one; the library's count as well. */
    private void looksAtDepth() {
        Map<String, Integer> known = new HashMap<>();
        for (String name : open) {
            int deep = depth(name, known);
            due.same(name + " goes " + deep + " deep", deep <= MOST_DEEP, true);
        }
    }

    private int depth(String name, Map<String, Integer> known) {
        if (known.containsKey(name)) {
            return known.get(name);
        }
        Set<String> group = new HashSet<>();
        for (String other : reached(name)) {
            if (reached(other).contains(name)) {
                group.add(other);
            }
        }
        group.add(name);
        int below = 0;
        for (String member : group) {
            for (String called : calls.getOrDefault(member, Set.of())) {
                if (!group.contains(called)) {
                    below = Math.max(below, depth(called, known));
                }
            }
        }
        boolean ours = calls.containsKey(name) || List.of("min", "max", "abs", "bitCount").contains(name);
        known.put(name, ours ? 1 + below : 0);
        return known.get(name);
    }

    private Set<String> reached(String name) {
        Set<String> seen = new HashSet<>();
        List<String> left = new ArrayList<>(calls.getOrDefault(name, Set.of()));
        while (!left.isEmpty()) {
            String next = left.remove(left.size() - 1);
            if (calls.containsKey(next) && seen.add(next)) {
                left.addAll(calls.get(next));
            }
        }
        return seen;
    }
}
