/** Compares answers with those that are due, and ends the program with exit code 1 if one is wrong. */
final class Check {
    private static int compared = 0;
    private static int wrong = 0;

    private Check() {
    }

    /** A call of which one argument is left open. */
    interface Call {
        int with(int argument);
    }

    static void due(String call, long got, long want) {
        compared++;
        if (got != want) {
            wrong++;
            System.out.println(call + " answered " + got + ", due is " + want);
        }
    }

    static void due(String what, String got, String want) {
        compared++;
        if (!got.equals(want)) {
            wrong++;
            System.out.println(what + " is " + got + ", due is " + want);
        }
    }

    /** The least and the most that an argument may be, with the answers due to them; what lies outside is invalid. */
    static void range(String argument, int least, int dueToLeast, int most, int dueToMost, Call call) {
        due(argument + " " + least, call.with(least), dueToLeast);
        due(argument + " " + most, call.with(most), dueToMost);
        int[] outside = {least - 1, most + 1, -1, Integer.MIN_VALUE, Integer.MAX_VALUE};
        for (int value : outside) {
            due(argument + " " + value, call.with(value), CiderShop.INVALID_ARGUMENT);
        }
    }

    static void finish(String name) {
        System.out.println(name + ": " + compared + " answers, " + wrong + " wrong");
        if (wrong != 0 || compared == 0) {
            System.exit(1);
        }
    }
}
