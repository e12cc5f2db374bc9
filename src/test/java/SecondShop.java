import java.util.ArrayDeque;
import java.util.ArrayList;
import java.util.Arrays;
import java.util.Deque;
import java.util.List;
import java.util.Map;
import java.util.regex.Matcher;
import java.util.regex.Pattern;

/**
 * The document told a second time, in another way than CiderShop does it: whole copies of the state, refusals that are
 * thrown, a text that is parted by regular expressions, days and blends that are tried out. Slow, but plain.
 */
final class SecondShop {
    private static final int JUICE = 0;
    private static final int SUGAR = 1;
    private static final int ACID = 2;
    private static final int HAZE = 3;
    private static final int ALCOHOL = 4;
    private static final int LEES = 5;
    private static final int ROOM = 6;

    /** The properties of a tank in the order of tank(), without the last one. */
    private static final int[] TANK_PROPERTIES = {ROOM, JUICE, SUGAR, ACID, HAZE, LEES, ALCOHOL};

    /** A token behind its spaces, or nothing at the end of the text. */
    private static final Pattern TOKEN = Pattern.compile(" *([a-z]+|[0-9]+|[^ ]|\\z)");

    /** How many numbers stand behind a word. */
    private static final Map<String, Integer> NUMBERS =
        Map.of("press", 3, "wet", 2, "move", 3, "rack", 2, "clean", 1, "bottle", 4, "day", 0);

    private State now = new State();
    private final Deque<State> saved = new ArrayDeque<>();
    private String text = "";
    private long reason = 0;

    /** What is thrown for an error code, and a reason if it is not 0. */
    private static final class Refusal extends RuntimeException {
        private static final long serialVersionUID = 1L;
        final int code;
        final int reason;

        Refusal(int code, int reason) {
            super("refused", null, false, false);
            this.code = code;
            this.reason = reason;
        }
    }

    private static final class State {
        long[][] varieties = new long[6][];
        long[] rates = {3, 40, 200, 50};
        long[][] labels = new long[4][];
        List<long[]> lots = new ArrayList<>();
        List<long[]> tanks = new ArrayList<>();
        long heap = 0;
        long days = 0;
        long[] gone = new long[7];
        /** The label, the size and the count of each bottling. */
        List<int[]> bottlings = new ArrayList<>();

        State() {
            Arrays.setAll(varieties, i -> new long[] {600, 100, 50});
            Arrays.setAll(labels, i -> new long[] {0, 1000, 0, 1000, 20});
        }

        State copy() {
            State copy = new State();
            Arrays.setAll(copy.varieties, i -> varieties[i].clone());
            copy.rates = rates.clone();
            Arrays.setAll(copy.labels, i -> labels[i].clone());
            lots.forEach(lot -> copy.lots.add(lot.clone()));
            tanks.forEach(tank -> copy.tanks.add(tank.clone()));
            copy.heap = heap;
            copy.days = days;
            copy.gone = gone.clone();
            copy.bottlings = new ArrayList<>(bottlings);
            return copy;
        }
    }

    /** The answer to a call of the method of this name. */
    int answer(String method, int... a) {
        switch (method) {
            case "appendCharacter":
                return append(a[0]);
            case "clearText":
                int length = text.length();
                text = "";
                return length;
            case "runScript":
                return runScript();
            case "undo":
                return undo();
            case "count": case "lot": case "variety": case "tank": case "share": case "why": case "account":
            case "bottles": case "daysTo": case "blendFor":
                try {
                    return (int) look(method, a);
                } catch (Refusal refusal) {
                    return refusal.code;
                }
            default:
                return editOne(method, a);
        }
    }

    // ---- edits

    private int editOne(String method, int[] a) {
        State next = now.copy();
        try {
            int answer = (int) edit(next, method, a);
            save(next);
            return answer;
        } catch (Refusal refusal) {
            if (refusal.code == CiderShop.ILLEGAL_STATE) {
                reason = refusal.reason;
            }
            return refusal.code;
        }
    }

    private void save(State next) {
        saved.addLast(now);
        if (saved.size() == 7) {
            saved.removeFirst();
        }
        now = next;
        reason = 0;
    }

    private int undo() {
        if (saved.isEmpty()) {
            return CiderShop.ILLEGAL_STATE;
        }
        now = saved.removeLast();
        return saved.size();
    }

    private static void valid(boolean condition) {
        if (!condition) {
            throw new Refusal(CiderShop.INVALID_ARGUMENT, 0);
        }
    }

    private static void possible(boolean condition, int reason) {
        if (!condition) {
            throw new Refusal(CiderShop.ILLEGAL_STATE, reason);
        }
    }

    private static void room(boolean condition) {
        if (!condition) {
            throw new Refusal(CiderShop.CAPACITY_EXCEEDED, 0);
        }
    }

    private static void range(int value, int least, int most) {
        valid(least <= value && value <= most);
    }

    private static long[] tankOf(State s, int tank) {
        range(tank, 0, s.tanks.size() - 1);
        return s.tanks.get(tank);
    }

    private static long[] lotOf(State s, int lot) {
        range(lot, 0, s.lots.size() - 1);
        return s.lots.get(lot);
    }

    private static long left(long[] tank) {
        return tank[ROOM] - tank[JUICE] - tank[LEES];
    }

    private static long edit(State s, String method, int[] a) {
        switch (method) {
            case "setVariety":
                return setVariety(s, a);
            case "setRates":
                return setRates(s, a);
            case "setLabel":
                return setLabel(s, a);
            case "buy":
                return buy(s, a[0], a[1]);
            case "addTank":
                return addTank(s, a[0]);
            case "press":
                return press(s, a[0], a[1], a[2]);
            case "wet":
                return wet(s, a[0], a[1]);
            case "sellPomace":
                return sellPomace(s);
            case "move":
                return move(s, a[0], a[1], a[2]);
            case "rack":
                return rack(s, a[0], a[1]);
            case "clean":
                return clean(s, a[0]);
            case "pour":
                return pour(s, a[0]);
            case "bottle":
                return bottle(s, a[0], a[1], a[2], a[3]);
            case "day":
                return day(s);
            default:
                throw new IllegalArgumentException(method);
        }
    }

    private static long setVariety(State s, int[] a) {
        range(a[0], 0, 5);
        range(a[1], 300, 800);
        range(a[2], 0, 200);
        range(a[3], 0, 100);
        long previous = s.varieties[a[0]][0];
        s.varieties[a[0]] = new long[] {a[1], a[2], a[3]};
        return previous;
    }

    private static long setRates(State s, int[] a) {
        int[] most = {20, 100, 500, 300};
        long[] rates = new long[4];
        for (int i = 0; i < 4; i++) {
            range(a[i], 0, most[i]);
            rates[i] = a[i];
        }
        boolean same = Arrays.equals(rates, s.rates);
        s.rates = rates;
        return same ? 0 : 1;
    }

    private static long setLabel(State s, int[] a) {
        range(a[0], 0, 3);
        range(a[1], 0, 1000);
        range(a[2], a[1], 1000);
        range(a[3], 0, 1000);
        range(a[4], a[3], 1000);
        range(a[5], 0, 1000);
        long[] label = {a[1], a[2], a[3], a[4], a[5]};
        boolean same = Arrays.equals(label, s.labels[a[0]]);
        s.labels[a[0]] = label;
        return same ? 0 : 1;
    }

    private static long buy(State s, int variety, int mass) {
        range(variety, 0, 5);
        range(mass, 1, 20000);
        room(s.lots.size() != 8);
        s.lots.add(new long[] {variety, mass});
        s.gone[0] += mass;
        return s.lots.size() - 1;
    }

    private static long addTank(State s, int room) {
        range(room, 1, 5000);
        room(s.tanks.size() != 6);
        s.tanks.add(new long[] {0, 0, 0, 0, 0, 0, room});
        return s.tanks.size() - 1;
    }

    private static long press(State s, int lotNumber, int mass, int tankNumber) {
        long[] lot = lotOf(s, lotNumber);
        long[] tank = tankOf(s, tankNumber);
        range(mass, 1, 20000);
        possible(lot[1] >= mass, 11);
        long[] variety = s.varieties[(int) lot[0]];
        long juice = mass * variety[0] / 1000;
        room(juice <= left(tank));
        lot[1] -= mass;
        tank[JUICE] += juice;
        tank[SUGAR] += juice * variety[1] / 1000;
        tank[ACID] += juice * variety[2] / 1000;
        tank[HAZE] += juice * s.rates[1] / 1000;
        s.heap += mass - juice;
        return juice;
    }

    private static long wet(State s, int water, int tankNumber) {
        range(water, 0, 20000);
        long[] tank = tankOf(s, tankNumber);
        possible(s.heap != 0, 12);
        long juice = (s.heap + water) / 4;
        room(juice <= left(tank));
        tank[JUICE] += juice;
        tank[SUGAR] += juice / 50;
        tank[ACID] += juice / 100;
        tank[HAZE] += juice / 10;
        s.heap = s.heap + water - juice;
        s.gone[1] += water;
        return juice;
    }

    private static long sellPomace(State s) {
        possible(s.heap != 0, 12);
        long pomace = s.heap;
        s.gone[4] += pomace;
        s.heap = 0;
        return pomace;
    }

    private static long move(State s, int from, int amount, int to) {
        long[] source = tankOf(s, from);
        long[] target = tankOf(s, to);
        valid(from != to);
        range(amount, 1, 5000);
        possible(source[JUICE] >= amount, 7);
        room(amount <= left(target));
        return carry(source, target, amount);
    }

    /** Carries an amount of juice over, and answers the haze that goes along. */
    private static long carry(long[] source, long[] target, long amount) {
        long[] along = new long[5];
        along[JUICE] = amount;
        for (int x = SUGAR; x <= ALCOHOL; x++) {
            along[x] = source[x] * amount / source[JUICE];
        }
        for (int x = JUICE; x <= ALCOHOL; x++) {
            source[x] -= along[x];
            target[x] += along[x];
        }
        return along[HAZE];
    }

    private static long rack(State s, int from, int to) {
        long[] source = tankOf(s, from);
        long[] target = tankOf(s, to);
        valid(from != to);
        possible(source[JUICE] != 0, 1);
        room(left(target) != 0);
        long amount = Math.min(source[JUICE], left(target));
        carry(source, target, amount);
        return amount;
    }

    private static long clean(State s, int number) {
        long[] tank = tankOf(s, number);
        possible(tank[JUICE] == 0, 13);
        long lees = tank[LEES];
        tank[LEES] = 0;
        s.gone[3] += lees;
        return lees;
    }

    private static long pour(State s, int number) {
        long[] tank = tankOf(s, number);
        possible(tank[JUICE] != 0, 1);
        long juice = tank[JUICE];
        Arrays.fill(tank, JUICE, ALCOHOL + 1, 0);
        s.gone[6] += juice;
        return juice;
    }

    private static long bottle(State s, int number, int label, int size, int count) {
        long[] tank = tankOf(s, number);
        range(label, 0, 3);
        range(size, 1, 10);
        range(count, 1, 5000);
        int against = against(tank, s.labels[label]);
        possible(against == 0, against);
        possible(tank[JUICE] >= (long) size * count, 7);
        carry(tank, new long[7], (long) size * count);
        s.gone[5] += (long) size * count;
        s.bottlings.add(new int[] {label, size, count});
        return bottles(s, label, 0);
    }

    private static long bottles(State s, int label, int size) {
        return s.bottlings.stream().filter(b -> b[0] == label && (size == 0 || b[1] == size)).mapToLong(b -> b[2])
            .sum();
    }

    private static int against(long[] tank, long[] label) {
        if (tank[JUICE] == 0) {
            return 1;
        }
        long sugar = tank[SUGAR] * 1000 / tank[JUICE];
        long acid = tank[ACID] * 1000 / tank[JUICE];
        long haze = tank[HAZE] * 1000 / tank[JUICE];
        boolean[] wrong = {sugar < label[0], sugar > label[1], acid < label[2], acid > label[3], haze > label[4]};
        for (int i = 0; i < wrong.length; i++) {
            if (wrong[i]) {
                return i + 2;
            }
        }
        return 0;
    }

    private static long day(State s) {
        for (long[] lot : s.lots) {
            long dried = lot[1] * s.rates[0] / 1000;
            lot[1] -= dried;
            s.gone[2] += dried;
        }
        for (long[] tank : s.tanks) {
            long settled = tank[HAZE] * s.rates[2] / 1000;
            tank[HAZE] -= settled;
            tank[JUICE] -= settled;
            tank[LEES] += settled;
            long fermented = tank[SUGAR] * s.rates[3] / 1000;
            tank[SUGAR] -= fermented;
            tank[ALCOHOL] += fermented;
        }
        s.days++;
        return s.days;
    }

    // ---- script

    private int append(int character) {
        if (character < 0 || character > 255) {
            return CiderShop.INVALID_ARGUMENT;
        }
        if (text.length() == 100) {
            return CiderShop.CAPACITY_EXCEEDED;
        }
        text += (char) character;
        return text.length();
    }

    private int runScript() {
        List<String[]> commands = new ArrayList<>();
        int error = readScript(commands);
        if (error >= 0) {
            return -10 - error;
        }
        State next = now.copy();
        for (int i = 0; i < commands.size(); i++) {
            String[] command = commands.get(i);
            int[] a = new int[command.length - 1];
            Arrays.setAll(a, k -> Integer.parseInt(command[k + 1]));
            try {
                edit(next, command[0], a);
            } catch (Refusal refusal) {
                if (refusal.reason != 0) {
                    reason = refusal.reason;
                }
                return -1000 - i;
            }
        }
        save(next);
        text = "";
        return commands.size();
    }

    /** Collects the commands of the text; answers the error position, or -1 if there is none. */
    private int readScript(List<String[]> commands) {
        Matcher tokens = TOKEN.matcher(text);
        List<String> command = new ArrayList<>();
        while (tokens.find()) {
            String token = tokens.group(1);
            if (token.isEmpty() && command.isEmpty()) {
                return -1;
            }
            if (!allowed(command, token)) {
                return tokens.start(1);
            }
            if (token.equals(";")) {
                commands.add(command.toArray(new String[0]));
                command.clear();
            } else {
                command.add(token);
            }
        }
        throw new IllegalStateException("the end of the text is a token, too");
    }

    private static boolean allowed(List<String> command, String token) {
        if (command.isEmpty()) {
            return NUMBERS.containsKey(token);
        }
        return token.matches(command.size() <= NUMBERS.get(command.get(0)) ? "0|[1-9][0-9]{0,4}" : ";");
    }

    // ---- looking

    private long look(String method, int[] a) {
        switch (method) {
            case "count":
                range(a[0], 0, 10);
                long[] counts = {now.lots.size(), now.tanks.size(), now.heap, now.days, reason, text.length(),
                    saved.size(), now.rates[0], now.rates[1], now.rates[2], now.rates[3]};
                return counts[a[0]];
            case "lot":
                range(a[1], 0, 1);
                return lotOf(now, a[0])[a[1]];
            case "variety":
                range(a[0], 0, 5);
                range(a[1], 0, 2);
                return now.varieties[a[0]][a[1]];
            case "tank":
                range(a[1], 0, 7);
                long[] tank = tankOf(now, a[0]);
                return a[1] == 7 ? left(tank) : tank[TANK_PROPERTIES[a[1]]];
            case "share":
                range(a[1], 0, 3);
                long[] shared = tankOf(now, a[0]);
                return shared[JUICE] == 0 ? CiderShop.NONE : shared[SUGAR + a[1]] * 1000 / shared[JUICE];
            case "why":
                range(a[1], 0, 3);
                return against(tankOf(now, a[0]), now.labels[a[1]]);
            case "account":
                return account(a[0]);
            case "bottles":
                range(a[0], 0, 3);
                range(a[1], 0, 10);
                return bottles(now, a[0], a[1]);
            case "daysTo":
                return daysTo(a[0], a[1]);
            case "blendFor":
                return blendFor(a[0], a[1], a[2]);
            default:
                throw new IllegalArgumentException(method);
        }
    }

    private long account(int what) {
        range(what, 0, 10);
        switch (what) {
            case 7:
                return now.lots.stream().mapToLong(lot -> lot[1]).sum();
            case 8:
                return now.heap;
            case 9:
                return now.tanks.stream().mapToLong(tank -> tank[JUICE]).sum();
            case 10:
                return now.tanks.stream().mapToLong(tank -> tank[LEES]).sum();
            default:
                return now.gone[what];
        }
    }

    private long daysTo(int tank, int label) {
        tankOf(now, tank);
        range(label, 0, 3);
        State then = now.copy();
        for (int days = 0; days <= 60; days++) {
            if (against(then.tanks.get(tank), then.labels[label]) == 0) {
                return days;
            }
            day(then);
        }
        return CiderShop.NONE;
    }

    private long blendFor(int from, int to, int label) {
        tankOf(now, from);
        tankOf(now, to);
        valid(from != to);
        range(label, 0, 3);
        if (against(now.tanks.get(to), now.labels[label]) == 0) {
            return 0;
        }
        for (int amount = 1; amount <= 5000; amount++) {
            State then = now.copy();
            try {
                move(then, from, amount, to);
            } catch (Refusal refusal) {
                return CiderShop.NONE;
            }
            if (against(then.tanks.get(to), then.labels[label]) == 0) {
                return amount;
            }
        }
        return CiderShop.NONE;
    }
}
