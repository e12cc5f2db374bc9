import java.lang.reflect.Method;
import java.lang.reflect.Modifier;
import java.util.ArrayList;
import java.util.Arrays;
import java.util.Comparator;
import java.util.List;
import java.util.Random;

/** Runs of 512 calls, always the same ones, made of a CiderShop and of a SecondShop: they answer alike. */
public final class SecondShopTest {
    private static final int RUNS = Integer.getInteger("runs", 300);
    private static final int CALLS = 512;
    /** The calls of a look at everything, at the end. */
    private static final int LOOKS = 148;
    private static final List<String> SELDOM =
        List.of("pour", "sellPomace", "undo", "setVariety", "setRates", "addTank", "buy", "clearText");
    private static final List<String> OFTEN = List.of("press", "press", "move", "bottle", "daysTo", "blendFor");
    private static final int[] ODD = {Integer.MIN_VALUE, -1001, -10, -9, -3, -2, -1, 0, 1, 2, 3, 4, 5, 6, 7, 8, 9, 10,
        11, 20, 21, 60, 100, 101, 200, 201, 255, 256, 299, 300, 301, 500, 501, 800, 801, 1000, 1001, 5000, 5001, 20000,
        20001, 65536, 107374183, Integer.MAX_VALUE};
    private static final String[] WORDS = {"press", "wet", "move", "rack", "clean", "bottle", "day"};
    private static final String[] STRAY = {"da", "days", "Day", "pour", "00", "01", "123456", "99999", "0", ";", "-1",
        "\t", "\n", "\u0000", "\u00e9", "a", " ", "  ", "7"};

    private final Random random;
    private final CiderShop shop = new CiderShop();
    private final SecondShop second = new SecondShop();
    private final List<String> told = new ArrayList<>();
    private final List<Method> methods = new ArrayList<>();
    /** About the room of a tank in this run; the smaller it is, the oftener numbers are rounded down to nothing. */
    private final int scale;
    private int made = 0;
    private boolean alike = true;

    private SecondShopTest(long seed) {
        random = new Random(seed);
        scale = new int[] {12, 60, 400, 5000}[random.nextInt(4)];
        for (Method method : CiderShop.class.getDeclaredMethods()) {
            if (Modifier.isPublic(method.getModifiers())) {
                methods.add(method);
            }
        }
        methods.sort(Comparator.comparing(Method::getName));
    }

    public static void main(String[] args) throws ReflectiveOperationException {
        for (int run = 0; run < RUNS; run++) {
            new SecondShopTest(run * 104729L + 17).run();
        }
        Check.finish("SecondShopTest");
    }

    private void run() throws ReflectiveOperationException {
        if (below(8) != 0) {
            furnish();
        }
        while (made < CALLS - LOOKS && alike) {
            if (below(14) == 0) {
                type();
            } else {
                Method method = next();
                int[] arguments = arguments(method);
                make(method, arguments);
                if (below(20) == 0) {
                    make(method, arguments);
                }
            }
        }
        lookAtAll();
    }

    /** What empties tanks or takes edits back comes less often than the rest, so that there is something to look at. */
    private Method next() {
        Method method = methods.get(below(methods.size()));
        while (SELDOM.contains(method.getName()) && below(5) != 0) {
            method = methods.get(below(methods.size()));
        }
        return below(4) == 0 ? named(OFTEN.get(below(OFTEN.size()))) : method;
    }

    private void lookAtAll() throws ReflectiveOperationException {
        for (int what = 0; what <= 10; what++) {
            make("count", what);
            make("account", what);
        }
        for (int i = 0; i < 8; i++) {
            make("lot", i, 0);
            make("lot", i, 1);
        }
        for (int i = 0; i < 6; i++) {
            for (int what = 0; what <= 7; what++) {
                make("tank", i, what);
            }
            for (int what = 0; what <= 2; what++) {
                make("variety", i, what);
            }
        }
        for (int label = 0; label < 4; label++) {
            for (int size = 0; size <= 10; size++) {
                make("bottles", label, size);
            }
        }
    }

    /** Opens with some tanks, lots and pressings, so that little of a run is refused for want of them. */
    private void furnish() throws ReflectiveOperationException {
        int tanks = 3 + below(2);
        for (int i = 0; i < tanks; i++) {
            make("setVariety", i, 300 + below(501), below(201), below(101));
            make("addTank", 1 + scale / 2 + below(scale / 2));
            make("buy", i, 1 + below(20000));
            make("press", i, amount(), i);
        }
    }

    private Method named(String name) {
        return methods.stream().filter(method -> method.getName().equals(name)).findFirst().orElseThrow();
    }

    private void make(String name, int... arguments) throws ReflectiveOperationException {
        make(named(name), arguments);
    }

    private void make(Method method, int... arguments) throws ReflectiveOperationException {
        if (made == CALLS || !alike) {
            return;
        }
        made++;
        told.add(method.getName() + Arrays.toString(arguments));
        Object[] boxed = Arrays.stream(arguments).boxed().toArray();
        int got = (Integer) method.invoke(shop, boxed);
        int want = second.answer(method.getName(), arguments);
        alike = got == want;
        Check.due(alike ? "" : String.join(" ", told), got, want);
    }

    private int[] arguments(Method method) {
        int[] arguments = likely(method.getName());
        if (arguments.length != method.getParameterCount()) {
            throw new IllegalStateException(method.getName());
        }
        if (arguments.length > 0 && below(9) == 0) {
            arguments[below(arguments.length)] = ODD[below(ODD.length)];
        }
        return arguments;
    }

    private int below(int bound) {
        return random.nextInt(bound);
    }

    private int tank() {
        return below(below(9) == 0 ? 6 : 3);
    }

    private int amount() {
        return 1 + below(below(3) == 0 ? 9 : scale / 3);
    }

    /** Arguments that are mostly in range. */
    private int[] likely(String name) {
        switch (name) {
            case "setVariety":
                return new int[] {below(6), 300 + below(501), below(201), below(101)};
            case "setRates":
                return new int[] {below(21), below(101), below(501), below(301)};
            case "setLabel":
                return label();
            case "buy":
                return new int[] {below(6), 1 + below(below(2) == 0 ? 20000 : scale)};
            case "addTank":
                return new int[] {1 + below(scale)};
            case "press":
                return new int[] {below(3), amount(), tank()};
            case "wet":
                return new int[] {below(scale), tank()};
            case "move":
                return new int[] {tank(), amount(), tank()};
            case "rack":
                return new int[] {tank(), tank()};
            case "clean": case "pour":
                return new int[] {tank()};
            case "bottle":
                return new int[] {tank(), below(4), 1 + below(10), 1 + below(below(2) == 0 ? 4 : 100)};
            case "appendCharacter":
                return new int[] {below(4) == 0 ? below(256) : " 0123456789;dayrck".charAt(below(18))};
            case "count": case "account":
                return new int[] {below(11)};
            case "lot":
                return new int[] {below(6), below(2)};
            case "variety":
                return new int[] {below(6), below(3)};
            case "tank":
                return new int[] {tank(), below(8)};
            case "share": case "why": case "daysTo":
                return new int[] {tank(), below(4)};
            case "bottles":
                return new int[] {below(4), below(11)};
            case "blendFor":
                return new int[] {tank(), tank(), below(4)};
            default:
                return new int[0];
        }
    }

    /** A label whose ranges lie near the shares that juice has. */
    private int[] label() {
        int sugar = below(150);
        int acid = below(70);
        return new int[] {below(4), below(3) == 0 ? sugar : 0, sugar + below(60), below(3) == 0 ? acid : 0,
            acid + below(40), below(below(2) == 0 ? 60 : 1001)};
    }

    /** Types a script, mostly a right one, and mostly runs it. */
    private void type() throws ReflectiveOperationException {
        if (below(3) != 0) {
            make("clearText");
        }
        StringBuilder script = new StringBuilder();
        for (int i = below(5); i > 0; i--) {
            command(script);
        }
        if (below(6) == 0) {
            script.insert(below(script.length() + 1), STRAY[below(STRAY.length)]);
        }
        if (below(8) == 0) {
            script.setLength(below(script.length() + 1));
        }
        if (below(8) == 0 && script.length() > 0) {
            script.setCharAt(below(script.length()), (char) (' ' + below(96)));
        }
        for (int i = 0; i < script.length(); i++) {
            make("appendCharacter", script.charAt(i));
        }
        if (below(8) != 0) {
            make("runScript");
            make("count", 4);
            make("count", 5);
        }
    }

    private void command(StringBuilder script) {
        String word = WORDS[below(WORDS.length)];
        script.append(word);
        boolean first = true;
        for (int number : likely(word)) {
            script.append(first && below(2) == 0 ? "" : " ".repeat(1 + below(2) * below(2)));
            script.append(number);
            first = false;
        }
        script.append(below(5) == 0 ? " ; " : ";");
    }
}
