import java.io.IOException;
import java.nio.file.Files;
import java.nio.file.Path;
import java.util.ArrayList;
import java.util.Arrays;
import java.util.LinkedHashMap;
import java.util.List;
import java.util.Map;
import java.util.TreeSet;
import java.util.regex.Matcher;
import java.util.regex.Pattern;

/** Every sentence of the document that names a boundary, with a run of calls of its own: src/test/edges.txt. */
public final class EdgeTest {
    private static final Path EDGES = Path.of("src/test/edges.txt");
    private static final Path DOCUMENT = Path.of("../shared/DOC.md");
    private static final Pattern CALL = Pattern.compile("(?:(\\d+) \\* )?(\\w+)\\(([-\\d, ]*)\\) (_|-?\\d+|throws\\.\\w+)");
    private static final Pattern REFUSAL = Pattern.compile("(?<![\\w.])-(?:1|2|3|4|11|12|13|14|15|1000000001|1000000011|1000000012)\\b");
    private static final int MOST_CALLS = 512;

    /** A sentence with what stands beneath it. */
    private record Edge(int line, String sentence, List<String> rows) {
    }

    private static ChainLeap x = new ChainLeap();
    private static int calls = 0;

    public static void main(String[] args) throws IOException {
        Map<String, List<Edge>> edges = edgesBySection();
        Map<String, String> document = sectionsOfTheDocument();
        for (String section : document.keySet()) {
            List<Edge> here = edges.getOrDefault(section, List.of());
            Due.same(section + " has sentences", here.isEmpty() ? 0 : 1, 1);
            for (Edge edge : here) {
                boolean stands = document.get(section).contains(edge.sentence);
                Due.same(section + " of the document says: " + edge.sentence, stands ? 1 : 0, 1);
                play(section, edge);
            }
            if (section.startsWith("Promise")) {
                everyRefusalIsMet(section, document.get(section), here);
            }
        }
        Due.same("sections: " + edges.keySet(), edges.size(), document.size());
        Due.end();
    }

    private static Map<String, List<Edge>> edgesBySection() throws IOException {
        Map<String, List<Edge>> edges = new LinkedHashMap<>();
        List<String> lines = Files.readAllLines(EDGES);
        List<Edge> here = new ArrayList<>();
        for (int i = 0; i < lines.size(); i++) {
            String line = lines.get(i);
            if (line.startsWith("== ")) {
                here = edges.computeIfAbsent(line.substring(3), s -> new ArrayList<>());
            } else if (line.startsWith("> ")) {
                here.add(new Edge(i + 1, line.substring(2), new ArrayList<>()));
            } else if (!line.isEmpty() && !line.startsWith("# ") && !edges.isEmpty()) {
                here.get(here.size() - 1).rows.add(line);
            }
        }
        return edges;
    }

    /** Terms 1 to 3, what is said once more behind them, and the promises, each as one line. */
    private static Map<String, String> sectionsOfTheDocument() throws IOException {
        Map<String, String> sections = new LinkedHashMap<>();
        String document = Files.readString(DOCUMENT).replace("```text", "").replace("```", "").replaceAll("\\s+", " ");
        Matcher heads = Pattern.compile("======== (\\d) |(Said once more): |## (Promise \\d+): |## Not promised").matcher(document);
        String name = "";
        int begin = 0;
        while (heads.find()) {
            if (!name.isEmpty()) {
                sections.put(name, document.substring(begin, heads.start()));
            }
            name = heads.group(1) != null ? "Terms " + heads.group(1) : heads.group(2) != null ? "Terms more" : "" + heads.group(3);
            begin = heads.end();
        }
        Due.same("sections of the document", sections.size(), 3 + 1 + 33);
        return sections;
    }

    private static void play(String section, Edge edge) {
        x = new ChainLeap();
        calls = 0;
        for (String row : edge.rows) {
            String named = section + ", line " + edge.line + ", " + row;
            String[] words = row.split(" ", 4);
            if (words[0].equals("text")) {
                fill(row, Integer.parseInt(words[1]), 0, row.split(" ", 3)[2].chars().toArray());
            } else if (words[0].equals("numbers")) {
                int[] elements = Arrays.stream(words[3].split(" ")).mapToInt(Integer::parseInt).toArray();
                fill(row, Integer.parseInt(words[1]), Integer.parseInt(words[2]), elements);
            } else if (!words[0].equals("!")) {
                call(named, row);
            }
        }
        Due.same(section + ", line " + edge.line + ": calls within " + MOST_CALLS, calls <= MOST_CALLS ? 1 : 0, 1);
        Due.same(section + ", line " + edge.line + " has calls", calls > 0 ? 1 : 0, 1);
    }

    private static void fill(String row, int d, int sort, int[] elements) {
        Due.numbers(x, d, sort, elements);
        calls += 1 + elements.length;
    }

    private static void call(String named, String row) {
        Matcher call = CALL.matcher(row);
        if (!call.matches()) {
            Due.same(named + " can be read", 0, 1);
            return;
        }
        int times = call.group(1) == null ? 1 : Integer.parseInt(call.group(1));
        for (int k = 0; k < times; k++) {
            String got = Due.answer(x, call.group(2), call.group(3));
            calls++;
            String due = call.group(4);
            Due.same(named + " (answered " + got + ")", due.equals("_") || due.equals(got) ? 1 : 0, 1);
        }
    }

    /** Each refusal that a promise names is an answer of its call beneath it, or told to be out of reach. */
    private static void everyRefusalIsMet(String section, String text, List<Edge> edges) {
        Matcher call = Pattern.compile("`\\w+ (\\w+)\\(").matcher(text);
        String name = call.find() ? call.group(1) : "";
        TreeSet<String> met = new TreeSet<>();
        for (Edge edge : edges) {
            for (String row : edge.rows) {
                Matcher read = CALL.matcher(row);
                if (read.matches() && read.group(2).equals(name)) {
                    met.add(read.group(4));
                } else if (row.startsWith("! ")) {
                    met.add(row.split(" ")[1]);
                }
            }
        }
        Matcher refusals = REFUSAL.matcher(text);
        while (refusals.find()) {
            Due.same(section + ": " + name + " answers " + refusals.group(), met.contains(refusals.group()) ? 1 : 0, 1);
        }
    }
}
