import java.io.IOException;
import java.nio.file.Files;
import java.nio.file.Path;
import java.util.regex.Matcher;
import java.util.regex.Pattern;

/** README.md's example: each of its calls answers what its comment begins with. */
public final class ReadmeTest {
    private static final Pattern CALL =
            Pattern.compile("packer\\.(\\w+)\\(([-\\d, ]*)\\);\\s*// (-?\\d+):.*");

    private ReadmeTest() {
    }

    private static String example() throws IOException {
        String text = Files.readString(Path.of("README.md"));
        int start = text.indexOf("```java\n") + 8;
        return text.substring(start, text.indexOf("```", start));
    }

    private static int answer(HostPacker packer, String name, String numbers)
            throws ReflectiveOperationException {
        String[] parts = numbers.isEmpty() ? new String[0] : numbers.split(", ");
        Class<?>[] types = new Class<?>[parts.length];
        Object[] values = new Object[parts.length];
        for (int i = 0; i < parts.length; i++) {
            types[i] = int.class;
            values[i] = Integer.valueOf(parts[i]);
        }
        return (Integer) HostPacker.class.getMethod(name, types).invoke(packer, values);
    }

    public static void main(String[] args) throws IOException, ReflectiveOperationException {
        HostPacker packer = new HostPacker();
        String[] lines = example().split("\n");
        Check.due(lines[0], lines[0].equals("HostPacker packer = new HostPacker();"));
        for (int i = 1; i < lines.length; i++) {
            Matcher call = CALL.matcher(lines[i]);
            Check.due("a call and its answer: " + lines[i], call.matches());
            if (call.matches()) {
                Check.due(lines[i], answer(packer, call.group(1), call.group(2)),
                        Integer.parseInt(call.group(3)));
            }
        }
        Check.close();
    }
}
