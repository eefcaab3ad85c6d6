/** Promise 4 (expression) and what the terms say about values. */
public final class ExpressionTest {
    private static final int LEAST = Integer.MIN_VALUE;

    public static void main(String[] args) {
        numbersAndLimit();
        wrongNumbers();
        unusedNumbersMayBeAny();
        valuesWithoutSubject();
        valuesForSubjects();
        joinedValues();
        shareDivides();
        sharedPartsEnd();
        Check.end();
    }

    /** Declares the operation of a new type with a condition, and calls it: whether that is TRUE. */
    private static void value(RequestGate gate, String text, int expression, int argument, int want) {
        int type = gate.service(-1, -1, expression);
        gate.declare(type, 0, -1);
        Check.due(text + " for " + argument, gate.call(type, 0, argument), want);
    }

    private static void value(String text, int op, int a, int b, int argument, int want) {
        RequestGate gate = new RequestGate();
        value(gate, text, gate.expression(op, a, b), argument, want);
    }

    private static void numbersAndLimit() {
        RequestGate gate = new RequestGate();
        for (int i = 0; i < 16; i++) {
            Check.due("expression " + i, gate.expression(i % 3, 0, 0), i);
        }
        Check.due("expression 16", gate.expression(0, 0, 0), -1);
        Check.due("the sixteenth is there", Check.rule(gate, "/", 15, 1), 0);
        Check.due("a seventeenth is not", Check.rule(gate, "/", 16, 1), -1);
    }

    private static void wrongNumbers() {
        RequestGate gate = new RequestGate();
        int[][] wrong = {
            {-1, 0, 0}, {10, 0, 0}, {LEAST, 0, 0}, {Integer.MAX_VALUE, 0, 0},
            {3, -1, 0}, {3, 8, 0}, {3, LEAST, 0},
            {4, -1, 0}, {4, 1, 0}, {5, 1, 0}, {5, 0, 1}, {5, -1, 0}, {5, 0, -1},
            {6, 1, 0}, {6, 0, 1}, {6, -1, 0}, {6, 0, -1},
        };
        Check.due("NOT of itself", gate.expression(4, 0, 0), -1);
        Check.due("YES", gate.expression(0, 0, 0), 0);
        for (int[] e : wrong) {
            Check.due("expression(" + e[0] + ", " + e[1] + ", " + e[2] + ")", gate.expression(e[0], e[1], e[2]), -1);
        }
        Check.due("refused ones change nothing", gate.expression(4, 0, 0), 1);
    }

    private static void unusedNumbersMayBeAny() {
        RequestGate gate = new RequestGate();
        for (int op = 0; op <= 2; op++) {
            Check.due("op " + op + " with any numbers", gate.expression(op, LEAST, 99), op);
        }
        Check.due("ROLE with any b", gate.expression(3, 7, LEAST), 3);
        Check.due("NOT with any b", gate.expression(4, 3, 77), 4);
        Check.due("SELF with any numbers", gate.expression(7, -5, 88), 5);
        Check.due("BELOW with any b", gate.expression(8, -5, 88), 6);
        Check.due("SHARE with any numbers", gate.expression(9, LEAST, LEAST), 7);
    }

    private static void valuesWithoutSubject() {
        value("YES", 0, 0, 0, 0, 1);
        value("KNOWN", 1, 0, 0, 0, 0);
        value("FULL", 2, 0, 0, 0, 0);
        value("ROLE", 3, 0, 0, 0, 0);
        value("SELF", 7, 0, 0, -1, 0);
        value("SELF", 7, 0, 0, 0, 0);
        value("BELOW 5", 8, 5, 0, 4, 1);
        value("BELOW 5", 8, 5, 0, 5, 0);
        value("BELOW 5", 8, 5, 0, LEAST, 1);
        value("BELOW least", 8, LEAST, 0, LEAST, 0);
        value("BELOW greatest", 8, Integer.MAX_VALUE, 0, Integer.MAX_VALUE, 0);
    }

    private static void valuesForSubjects() {
        for (int remembered = 0; remembered < 2; remembered++) {
            RequestGate gate = new RequestGate();
            gate.expression(0, 0, 0);
            Check.rule(gate, "/", 0, 15);
            gate.user(0, 1, 1);
            gate.user(1, 4, 1);
            int session = gate.login(1, 1, 0, true);
            if (remembered == 1) {
                gate.tick(21);
            }
            Check.due("open", Check.open(gate, "/", 0, session, 0, session + 2, session + 3), 200);
            Check.due("who", gate.who(), 1 + 8 * remembered);
            value(gate, "KNOWN", gate.expression(1, 0, 0), 0, 1);
            value(gate, "FULL", gate.expression(2, 0, 0), 0, 1 - remembered);
            value(gate, "ROLE 2", gate.expression(3, 2, 0), 0, 1);
            value(gate, "ROLE 0", gate.expression(3, 0, 0), 0, 0);
            int self = gate.expression(7, 0, 0);
            value(gate, "SELF", self, 1, 1);
            value(gate, "SELF", self, 9, 0);
            gate.call(5, 0, 0);
        }
    }

    private static void joinedValues() {
        int[] singles = {0, 1, 2};
        for (int x : singles) {
            one("NOT " + x, 4, x, 0, x == 0 ? 1 : x == 1 ? 0 : 2);
            for (int y : singles) {
                one(x + " AND " + y, 5, x, y, x == 1 ? y : x);
                one(x + " OR " + y, 6, x, y, x == 0 ? y : x);
            }
        }
    }

    /** Of expressions 0 FALSE, 1 TRUE, 2 ERROR; 0 FALSE, 1 TRUE, 2 ERROR is due. */
    private static void one(String text, int op, int x, int y, int want) {
        RequestGate gate = new RequestGate();
        gate.expression(1, 0, 0);
        gate.expression(0, 0, 0);
        gate.expression(9, 0, 0);
        int e = gate.expression(op, x, y);
        value(gate, text, e, 0, want == 1 ? 1 : 0);
        value(gate, "NOT " + text, gate.expression(4, e, 0), 0, want == 0 ? 1 : 0);
    }

    private static void shareDivides() {
        value("30 / x >= 3", 9, 3, 30, 10, 1);
        value("30 / x >= 3", 9, 3, 30, 11, 0);
        value("30 / x >= 3", 9, 3, 30, 0, 0);
        value("-7 / x >= -3", 9, -3, -7, 2, 1);
        value("7 / x >= -3", 9, -3, 7, -2, 1);
        value("7 / x >= 3", 9, 3, 7, 2, 1);
        value("-1 / x >= 0", 9, 0, -1, 2, 1);
        value("least / -1 >= least", 9, LEAST, LEAST, -1, 1);
        value("least / -1 >= least + 1", 9, LEAST + 1, LEAST, -1, 0);
        value("least / 1 >= least", 9, LEAST, LEAST, 1, 1);
        value("0 / least >= 0", 9, 0, 0, LEAST, 1);
    }

    private static void sharedPartsEnd() {
        RequestGate gate = new RequestGate();
        gate.expression(0, 0, 0);
        for (int i = 1; i < 16; i++) {
            Check.due("both parts the same", gate.expression(5 + i % 2, i - 1, i - 1), i);
        }
        value(gate, "the deepest one", 15, 0, 1);
    }
}
