/** What the tests share: answers against those that are due, texts and lines as Strings. */
final class Check {
    private static int made = 0;
    private static int wrong = 0;
    private static String words = "";

    private Check() {
    }

    /** The words of the document that the answers from here on are due to: a wrong answer is printed under them. */
    static void sentence(String ofTheDocument) {
        words = "\"" + ofTheDocument + "\" ";
    }

    static void due(String call, long got, long want) {
        made++;
        if (got != want) {
            wrong++;
            System.out.println(words + call + " answered " + got + ", due is " + want);
        }
    }

    static void due(String call, String got, String want) {
        made++;
        if (!got.equals(want)) {
            wrong++;
            System.out.println(words + call + " answered " + got + ", due is " + want);
        }
    }

    static boolean allIsWell() {
        return wrong == 0;
    }

    /** Prints the sum, and ends with exit code 1 if an answer was wrong. */
    static void end() {
        System.out.println(made + " answers, " + wrong + " not as due");
        if (wrong != 0) {
            System.exit(1);
        }
    }

    /** Numbers that are none of least to most: the next ones on either side, and ones far outside. */
    static int[] around(int least, int most) {
        return new int[] {least - 1, most + 1, least - 65536, most + 65536, Integer.MIN_VALUE, Integer.MIN_VALUE + 1,
            Integer.MAX_VALUE - 1, Integer.MAX_VALUE};
    }

    static void say(FlapDamper damper, String text) {
        for (int i = 0; i < text.length(); i++) {
            damper.say(text.charAt(i));
        }
    }

    /** Puts the text in place of what was there, and sets the bound that it tells. */
    static int set(FlapDamper damper, String text) {
        damper.wipe();
        say(damper, text);
        return damper.set();
    }

    /** A line as a text; "" if there is none. */
    static String line(FlapDamper damper, int i) {
        StringBuilder text = new StringBuilder();
        int length = damper.line(i, -1);
        for (int k = 0; k < length; k++) {
            text.append((char) damper.line(i, k));
        }
        return text.toString();
    }

    /** Withdrawals, each after an announcement of path 1. */
    static void flap(FlapDamper damper, int peer, int prefix, int times) {
        for (int i = 0; i < times; i++) {
            damper.announce(peer, prefix, 1, 0);
            damper.withdraw(peer, prefix, 0);
        }
    }
}
