/** Promises 8 (service), 9 (declare) and 14 (call). */
public final class ServiceTest {
    private static final int LEAST = Integer.MIN_VALUE;
    private static final int GREATEST = Integer.MAX_VALUE;

    public static void main(String[] args) {
        numbersAndLimit();
        wrongTypes();
        wrongDeclarations();
        wrongCalls();
        guardIsTheFirstThereIs();
        interfacesOfTheWholeLine();
        onlyTheInterfaceItselfDeclares();
        firstThatDeclares();
        callsWithTheSubject();
        Check.end();
    }

    /** Expression n is BELOW n: a call tells by its argument which condition guards. */
    private static RequestGate withBelow() {
        RequestGate gate = new RequestGate();
        for (int i = 0; i < 16; i++) {
            gate.expression(8, i, 0);
        }
        return gate;
    }

    private static void guard(RequestGate gate, String text, int type, int operation, int condition) {
        Check.due(text + ", just below", gate.call(type, operation, condition - 1), 1);
        Check.due(text + ", at it", gate.call(type, operation, condition), 0);
    }

    private static void noGuard(RequestGate gate, String text, int type, int operation) {
        Check.due(text + ", least", gate.call(type, operation, LEAST), 1);
        Check.due(text + ", greatest", gate.call(type, operation, GREATEST), 1);
    }

    private static void numbersAndLimit() {
        RequestGate gate = withBelow();
        for (int i = 0; i < 6; i++) {
            Check.due("type " + i, gate.service(i - 1, i - 1, i - 1), i);
        }
        Check.due("type 6", gate.service(-1, -1, -1), -1);
        Check.due("type 6 is not there", gate.declare(6, 0, -1), false);
        Check.due("the line of the last goes to the first", gate.declare(0, 0, 9), true);
        guard(gate, "found in the first", 5, 0, 9);
    }

    private static void wrongTypes() {
        RequestGate gate = new RequestGate();
        gate.expression(0, 0, 0);
        Check.due("itself as parent", gate.service(0, -1, -1), -1);
        Check.due("itself as interface", gate.service(-1, 0, -1), -1);
        Check.due("first", gate.service(-1, -1, 0), 0);
        int[][] wrong = {{1, -1, -1}, {-1, 1, -1}, {-1, -1, 1}, {-2, -1, -1}, {-1, -2, -1}, {-1, -1, -2}, {LEAST, 0, 0}, {0, GREATEST, 0},
            {0, 0, GREATEST}, {0, 0, 16}};
        for (int[] s : wrong) {
            Check.due("service(" + s[0] + ", " + s[1] + ", " + s[2] + ")", gate.service(s[0], s[1], s[2]), -1);
        }
        Check.due("refused ones change nothing", gate.service(0, 0, 0), 1);
    }

    private static void wrongDeclarations() {
        RequestGate gate = withBelow();
        gate.service(-1, -1, -1);
        int[][] wrong = {{-1, 0, -1}, {1, 0, -1}, {LEAST, 0, -1}, {0, -1, -1}, {0, 4, -1}, {0, GREATEST, -1}, {0, 0, -2}, {0, 0, 16}, {0, 0, LEAST}};
        for (int[] d : wrong) {
            Check.due("declare(" + d[0] + ", " + d[1] + ", " + d[2] + ")", gate.declare(d[0], d[1], d[2]), false);
        }
        Check.due("refused ones declare nothing", gate.call(0, 0, 0), -1);
        for (int operation = 0; operation < 4; operation++) {
            Check.due("declare", gate.declare(0, operation, operation + 3), true);
            Check.due("declare again", gate.declare(0, operation, -1), false);
            Check.due("declare again with another", gate.declare(0, operation, 15), false);
            guard(gate, "the first declaration stays", 0, operation, operation + 3);
        }
    }

    private static void wrongCalls() {
        RequestGate gate = withBelow();
        gate.service(-1, -1, -1);
        gate.service(0, -1, -1);
        gate.service(-1, 1, -1);
        gate.declare(1, 2, -1);
        int[][] wrong = {{-1, 2}, {3, 2}, {LEAST, 2}, {GREATEST, 2}, {1, -1}, {1, 4}, {1, LEAST}, {1, GREATEST}, {0, 2}, {1, 1}, {2, 2}};
        for (int[] c : wrong) {
            Check.due("call(" + c[0] + ", " + c[1] + ", 0)", gate.call(c[0], c[1], 0), -1);
        }
        Check.due("refused ones are not counted", gate.count(1) + gate.count(2), 0);
        Check.due("call(1, 2, 0)", gate.call(1, 2, 0), 1);
        Check.due("bodies that ran", gate.count(1), 1);
    }

    private static void guardIsTheFirstThereIs() {
        // Which of five conditions there are; the first of those that are there guards.
        for (int there = 0; there < 32; there++) {
            RequestGate gate = withBelow();
            int own = (there & 1) != 0 ? 1 : -1;
            int type = (there & 2) != 0 ? 2 : -1;
            int face = (there & 4) != 0 ? 3 : -1;
            int faceType = (there & 8) != 0 ? 4 : -1;
            int upper = (there & 16) != 0 ? 5 : -1;
            gate.service(-1, -1, faceType);
            gate.declare(0, 0, face);
            gate.service(-1, -1, upper);
            gate.declare(1, 0, -1);
            gate.service(-1, 1, 9);
            gate.service(2, 0, type);
            gate.declare(3, 0, own);
            if (there == 0) {
                noGuard(gate, "no condition", 3, 0);
            } else {
                guard(gate, "conditions " + there, 3, 0, Integer.numberOfTrailingZeros(there) + 1);
            }
        }
    }

    private static void interfacesOfTheWholeLine() {
        RequestGate gate = withBelow();
        gate.service(-1, -1, 2);
        gate.declare(0, 0, -1);
        gate.declare(0, 1, -1);
        gate.service(-1, -1, -1);
        gate.declare(1, 0, 7);
        gate.service(-1, 1, -1);
        gate.declare(2, 0, -1);
        gate.declare(2, 1, -1);
        gate.service(2, -1, 11);
        gate.service(3, 0, 12);
        guard(gate, "the interface of the called type goes first, though the operation is found above", 4, 0, 2);
        guard(gate, "from the type between, only the upper interface is seen", 3, 0, 7);
        guard(gate, "the condition of an interface that declares without one", 4, 1, 2);
        noGuard(gate, "the conditions of types that only inherit do not count", 3, 1);
    }

    private static void onlyTheInterfaceItselfDeclares() {
        RequestGate gate = withBelow();
        gate.service(-1, -1, 3);
        gate.declare(0, 0, 4);
        gate.service(0, 0, 5);
        gate.service(-1, 1, -1);
        gate.declare(2, 0, -1);
        noGuard(gate, "an interface that inherits the operation does not declare it", 2, 0);
        gate.declare(1, 0, -1);
        guard(gate, "once it does, its condition guards", 2, 0, 5);
    }

    private static void firstThatDeclares() {
        RequestGate gate = withBelow();
        gate.service(-1, -1, 3);
        gate.service(0, -1, 4);
        gate.service(1, -1, 5);
        gate.declare(0, 0, 8);
        guard(gate, "found at the top", 2, 0, 8);
        gate.declare(1, 0, -1);
        guard(gate, "found in the middle, with the condition of that type", 2, 0, 4);
        guard(gate, "the top is as it was", 0, 0, 8);
        gate.declare(2, 0, 9);
        guard(gate, "found in the type itself", 2, 0, 9);
    }

    private static void callsWithTheSubject() {
        RequestGate gate = new RequestGate();
        gate.expression(0, 0, 0);
        gate.expression(7, 0, 0);
        gate.expression(9, 1, 1);
        Check.rule(gate, "/**", 0, 15);
        gate.user(5, 0, 1);
        gate.user(6, 0, 1);
        gate.service(-1, -1, 1);
        gate.declare(0, 0, -1);
        gate.declare(0, 1, 2);
        int session = gate.login(1, 6, 0, false);
        Check.due("no request: no subject", gate.call(0, 0, 1), 0);
        Check.get(gate, "/", session);
        Check.due("the subject", gate.call(0, 0, 1), 1);
        Check.due("not the other user", gate.call(0, 0, 0), 0);
        gate.logout(session);
        Check.due("the subject stays for this request", gate.call(0, 0, 1), 1);
        Check.due("an error lets no body run", gate.call(0, 1, 0), 0);
        gate.close();
        Check.due("closed: no subject", gate.call(0, 0, 1), 0);
        Check.get(gate, "/", session);
        Check.due("open for nobody", gate.call(0, 0, -1), 0);
        Check.due("bodies that ran", gate.count(1), 2);
        Check.due("bodies that did not", gate.count(2), 5);
    }
}
