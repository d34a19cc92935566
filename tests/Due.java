/** Counts the answers that are not as due; each test ends with end(). */
final class Due {
    private static final int SIGNS_AT_ONCE = 8;
    private static int asked = 0;
    private static int wrong = 0;

    private Due() {
    }

    static void is(String call, long got, long want) {
        asked++;
        if (got == want) return;
        wrong++;
        System.out.println(call + " answered " + got + ", due is " + want);
    }

    static void holds(String what, boolean so) {
        is(what, so ? 1 : 0, 1);
    }

    static void end(String test) {
        System.out.println(test + ": " + asked + " answers, " + wrong + " not as due");
        if (wrong != 0) System.exit(1);
    }

    /** The number by which at most 8 characters are given to put(). */
    static long number(String text) {
        long number = 0;
        for (int i = 0; i < text.length(); i++) number = number << 8 | text.charAt(i);
        return number;
    }

    static void write(Watched x, String text) {
        for (int i = 0; i < text.length(); i += SIGNS_AT_ONCE) {
            String part = text.substring(i, Math.min(text.length(), i + SIGNS_AT_ONCE));
            is("put of " + part, x.put(number(part)) < 0 ? 1 : 0, 0);
        }
    }
}
