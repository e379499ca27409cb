import java.io.IOException;
import java.nio.file.Files;
import java.nio.file.Path;
import java.util.ArrayList;
import java.util.LinkedHashMap;
import java.util.List;
import java.util.Map;

/** The document's own words, so that a test holds to them and not to a copy of them. */
final class Document {
    private static final Path PLACE = Path.of("../shared/DOC.md");

    private final Map<String, String> sections = new LinkedHashMap<>();
    private final String whole;

    Document() {
        whole = read(PLACE);
        String[] parts = whole.split("\n## ");
        for (int i = 1; i < parts.length; i++) {
            int end = parts[i].indexOf('\n');
            sections.put(parts[i].substring(0, end).trim(), plain(parts[i].substring(end)));
        }
    }

    static String read(Path place) {
        try {
            return Files.readString(place).replace("\r", "");
        } catch (IOException e) {
            throw new AssertionError("can't read " + place.toAbsolutePath().normalize(), e);
        }
    }

    /** The lines of every block of Java in a text. */
    static List<List<String>> blocks(String text) {
        List<List<String>> blocks = new ArrayList<>();
        boolean inside = false;
        for (String line : text.split("\n")) {
            if (inside && line.equals("```")) {
                inside = false;
            } else if (inside) {
                blocks.get(blocks.size() - 1).add(line);
            } else if (line.equals("```java")) {
                inside = true;
                blocks.add(new ArrayList<>());
            }
        }
        return blocks;
    }

    /** A text as its words: without line ends and without the marks of code. */
    private static String plain(String text) {
        return text.replace("`", "").replaceAll("\\s+", " ").trim();
    }

    /** The lines of the public face: the constructor and the methods. */
    List<String> face() {
        List<String> face = new ArrayList<>();
        for (String line : blocks(whole).get(0)) {
            if (line.startsWith("    public ")) {
                face.add(line.trim());
            }
        }
        return face;
    }

    /** The section with that name, or with that beginning of a name. */
    String section(String name) {
        for (Map.Entry<String, String> section : sections.entrySet()) {
            if (section.getKey().equals(name) || section.getKey().startsWith(name + ":")) {
                return section.getValue();
            }
        }
        throw new AssertionError("the document has no section " + name);
    }

    List<String> names() {
        return new ArrayList<>(sections.keySet());
    }
}
