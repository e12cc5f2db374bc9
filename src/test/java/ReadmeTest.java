import java.io.IOException;
import java.lang.reflect.Method;
import java.nio.file.Files;
import java.nio.file.Path;
import java.util.Arrays;
import java.util.regex.Matcher;
import java.util.regex.Pattern;

/** README.md tells calls with their answers; they are made here. It is run from the directory of README.md. */
public final class ReadmeTest {
    private static final Pattern TOLD = Pattern.compile("shop\\.(\\w+)\\(([-0-9, ]*)\\); +// (-?[0-9]+)(:.*|)");

    private ReadmeTest() {
    }

    public static void main(String[] args) throws IOException, ReflectiveOperationException {
        CiderShop shop = new CiderShop();
        for (String line : Files.readAllLines(Path.of("README.md"))) {
            Matcher told = TOLD.matcher(line);
            if (told.matches()) {
                Check.due(line, call(shop, told.group(1), told.group(2)), Integer.parseInt(told.group(3)));
            } else {
                Check.due("a call without an answer: " + line, line.startsWith("shop.") ? 1 : 0, 0);
            }
        }
        Check.finish("ReadmeTest");
    }

    private static int call(CiderShop shop, String name, String list) throws ReflectiveOperationException {
        Object[] arguments = Pattern.compile("-?[0-9]+").matcher(list).results()
            .map(number -> Integer.valueOf(number.group())).toArray();
        Class<?>[] types = new Class<?>[arguments.length];
        Arrays.fill(types, int.class);
        Method method = CiderShop.class.getMethod(name, types);
        return (Integer) method.invoke(shop, arguments);
    }
}
