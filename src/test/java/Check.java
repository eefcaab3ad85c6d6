/** What the tests share: each wrong answer is printed, and ends the test with exit code 1. */
final class Check {
    private static int wrong = 0;
    private static String sentence = "";

    private Check() {
    }

    /** What follows tests this sentence of the document, which is printed with each wrong answer. */
    static void about(String text) {
        sentence = " (" + text + ")";
    }

    static void due(String call, long got, long want) {
        if (got != want) {
            wrong++;
            System.out.println(call + " answered " + got + ", due is " + want + sentence);
        }
    }

    static void due(String call, boolean got, boolean want) {
        due(call, got ? 1 : 0, want ? 1 : 0);
    }

    /** The buffer holds just this text afterwards. */
    static void write(RequestGate gate, String text) {
        gate.clear();
        for (int i = 0; i < text.length(); i++) {
            due("type(" + (int) text.charAt(i) + ")", gate.type(text.charAt(i)), true);
        }
    }

    static int rule(RequestGate gate, String pattern, int expression, int methods) {
        write(gate, pattern);
        return gate.rule(expression, methods);
    }

    static int open(RequestGate gate, String path, int method, int session, int secret) {
        return open(gate, path, method, session, secret, 0, 0);
    }

    static int open(RequestGate gate, String path, int method, int session, int secret, int series, int token) {
        write(gate, path);
        return gate.open(method, session, secret, series, token);
    }

    static int get(RequestGate gate, String path, int session) {
        return open(gate, path, 0, session, 0);
    }

    /** The hash as the document tells it, by long sums that are cut to an int. */
    static int hash(int password, int scheme, int salt) {
        int h = salt;
        for (int i = scheme == 0 ? 4 : 9; i > 0; i--) {
            long sum = 31L * h + password;
            long shifted = (h & 0xFFFFFFFFL) / 512;
            h = (int) sum ^ (int) shifted;
        }
        return h;
    }

    static void end() {
        if (wrong > 0) {
            System.out.println(wrong + " wrong");
            System.exit(1);
        }
    }
}
