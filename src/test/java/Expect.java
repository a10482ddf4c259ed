// What every test of the project uses: compares answers, prints the wrong ones, ends with exit code 1 if there was one.
final class Expect {
    private static final int LINES = 100;

    private static long wrong = 0;
    private static long right = 0;

    private Expect() {}

    static void same(String what, long got, long want) {
        if (got == want) {
            right++;
            return;
        }
        wrong++;
        if (wrong > LINES) return;
        System.out.println(what + " answered " + got + " (" + Long.toHexString(got) + "), due is " + want
            + " (" + Long.toHexString(want) + ")" + Document.now());
    }

    static void yes(String what, boolean got) {
        same(what, got ? 1 : 0, 1);
    }

    static void no(String what, boolean got) {
        same(what, got ? 1 : 0, 0);
    }

    /** Stores the bytes given as hexadecimal pairs, and answers the address after them. */
    static int load(Pc32 x, int at, String hex) {
        String digits = hex.replace(" ", "");
        int count = digits.length() / 2;
        for (int i = 0; i < count; i++) {
            long one = Long.parseLong(digits.substring(2 * i, 2 * i + 2), 16);
            yes("poke of program", x.poke(at + i, one, 1));
        }
        return at + count;
    }

    static void end(String name) {
        Document.lookUpQuotes();
        System.out.println(name + ": " + right + " answers as due, " + wrong + " not");
        if (wrong != 0) System.exit(1);
    }
}
