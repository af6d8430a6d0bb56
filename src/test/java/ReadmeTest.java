import java.io.IOException;
import java.nio.file.Files;
import java.nio.file.Path;
import java.util.Set;
import java.util.TreeSet;
import java.util.regex.Matcher;
import java.util.regex.Pattern;

/** The calls that README.md shows, one after another, answer or throw what stands behind them there. */
public final class ReadmeTest {
    private static final Checks CHECKS = new Checks();
    private static final Pattern CALL =
        Pattern.compile("(?:long \\w+ = )?seal\\.(\\w+)\\((.*)\\);(?: +// (answers \\w+|throws \\w+).*)?");

    public static void main(String[] args) throws IOException {
        SectorSeal seal = new SectorSeal();
        Set<String> shown = new TreeSet<>();
        for (String line : Files.readAllLines(Path.of("README.md"))) {
            if (line.contains("seal.")) {
                Matcher call = CALL.matcher(line);
                CHECKS.due("a line that can be read: " + line, call.matches(), true);
                shown.add(call.group(1));
                String due = call.group(3) == null ? "answers nothing" : call.group(3);
                CHECKS.due(line, outcome(seal, call.group(1), call.group(2).split(", ")), due);
            }
        }
        CHECKS.due("the calls that README.md shows", shown, Set.of("key", "put", "get", "sector", "block", "sum"));
        CHECKS.end();
    }

    private static String outcome(SectorSeal seal, String name, String[] words) {
        try {
            return "answers " + answer(seal, name, words);
        } catch (IndexOutOfBoundsException | IllegalArgumentException e) {
            return "throws " + e.getClass().getSimpleName();
        }
    }

    private static String answer(SectorSeal seal, String name, String[] words) {
        if (name.equals("key")) {
            seal.key(number(words[0]), number(words[1]), number(words[2]), number(words[3]));
            return "nothing";
        }
        return String.format("0x%016xL", switch (name) {
            case "put" -> seal.put((int) number(words[0]), number(words[1]));
            case "get" -> seal.get((int) number(words[0]));
            case "sector" -> seal.sector((int) number(words[0]), truth(words[1]));
            case "block" -> seal.block((int) number(words[0]), truth(words[1]), truth(words[2]));
            case "sum" -> seal.sum();
            default -> throw new IllegalStateException("no such call: " + name);
        });
    }

    private static long number(String word) {
        String digits = word.replace("L", "");
        return digits.startsWith("0x") ? Long.parseUnsignedLong(digits.substring(2), 16) : Long.parseLong(digits);
    }

    private static boolean truth(String word) {
        return word.equals("true");
    }
}
