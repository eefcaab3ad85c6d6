/** Promises 1 to 9 at their boundaries: how many there may be of each thing, and the first and last numbers that are taken. */
public final class MakingTest {
    private static final int LEAST = Integer.MIN_VALUE;
    private static final int GREATEST = Integer.MAX_VALUE;

    /** Password, scheme, hash with the salt 1: told once by another program, in numbers without a limit that were cut to 32 bits. */
    private static final int[][] HASHES = {
        {0, 0, 923480},
        {0, 1, -354812006},
        {1, 0, 954332},
        {1, 1, -1150630121},
        {-1, 0, 892760},
        {-1, 1, 915135023},
        {77, 0, 3293772},
        {77, 1, 1320339778},
        {-77, 0, 781665094},
        {-77, 1, -962903740},
        {GREATEST, 0, -267755704},
        {GREATEST, 1, -1443075173},
        {LEAST, 0, -267790520},
        {LEAST, 1, 870047227},
        {-2147483647, 0, -267825204},
        {-2147483647, 1, -267431023},
        {123456789, 0, -426606515},
        {123456789, 1, 13551538},
        {-987654321, 0, 1889129187},
        {-987654321, 1, -736865933},
    };

    public static void main(String[] args) {
        objectsKnowNothingOfEachOther();
        typeAppends();
        clearEmptiesWhateverIsThere();
        sixteenExpressions();
        operatorsAreZeroToNine();
        rolesOfExpressions();
        partsAreEarlierExpressions();
        numbersThatAreNotUsed();
        eightRules();
        methodsAreOneToFifteen();
        expressionOfARule();
        ruleEmptiesTheBuffer();
        rolesAreZeroToSeven();
        includesAlready();
        longestChainOfRoles();
        sixUsers();
        givenRolesAndScheme();
        saltsAreDrawn();
        hashesWrap();
        hashOfNoUserIsZero();
        sixTypes();
        parentAndFaceAreEarlierTypes();
        conditionsOfTypes();
        operationsAreZeroToThree();
        declaresThatAlready();
        Check.end();
    }

    private static RequestGate withExpressions(int n) {
        RequestGate gate = new RequestGate();
        for (int i = 0; i < n; i++) {
            Check.due("expression " + i, gate.expression(0, 0, 0), i);
        }
        return gate;
    }

    private static RequestGate withTypes(int n) {
        RequestGate gate = withExpressions(3);
        for (int i = 0; i < n; i++) {
            Check.due("type " + i, gate.service(-1, -1, -1), i);
        }
        return gate;
    }

    private static void objectsKnowNothingOfEachOther() {
        Check.about("Promise 1: Nobody and nothing; no request is open.");
        RequestGate used = withTypes(6);
        Check.rule(used, "/**", 0, 15);
        used.role(0, 1);
        used.user(1, 1, 0);
        used.declare(0, 0, -1);
        used.call(0, 0, 0);
        used.login(0, 1, 0, true);
        used.login(0, 2, 0, true);
        used.tick(7);
        Check.get(used, "/", 0);
        used.type('/');
        RequestGate fresh = new RequestGate();
        for (int kind = 0; kind <= 6; kind++) {
            Check.due("count(" + kind + ")", fresh.count(kind), 0);
        }
        Check.due("nobody", fresh.hash(0), 0);
        Check.due("no request", fresh.close(), false);
        Check.due("no rule", fresh.fits(0), -1);
        Check.due("no role was added", fresh.role(0, 1), true);
        Check.due("the first type", fresh.service(-1, -1, -1), 0);
        Check.due("it declares nothing", fresh.call(0, 0, 0), -1);
        Check.due("the first expression", fresh.expression(0, 0, 0), 0);
        Check.due("nothing is typed", fresh.rule(0, 1), -1);
        Check.due("the other one's request is open", used.close(), true);
    }

    private static void typeAppends() {
        Check.about("Promise 2: Appends a character to the buffer: true; false, refused, if c is not 33 .. 126 or 40 are there.");
        RequestGate gate = withExpressions(1);
        Check.rule(gate, "/!b~", 0, 15);
        gate.type('/');
        Check.due("the least code", gate.type(33), true);
        Check.due("one less", gate.type(32), false);
        Check.due("another", gate.type('b'), true);
        Check.due("the greatest code", gate.type(126), true);
        Check.due("one more", gate.type(127), false);
        Check.due("one after the other", gate.fits(0), 1);
        for (int i = 4; i < 40; i++) {
            Check.due("character " + i, gate.type('a'), true);
        }
        Check.due("40 are there", gate.type('a'), false);
        Check.due("40 are there", gate.type(32), false);
    }

    private static void clearEmptiesWhateverIsThere() {
        Check.about("Promise 3: The buffer becomes empty.");
        for (int length : new int[] {0, 1, 39, 40}) {
            RequestGate gate = withExpressions(1);
            Check.rule(gate, "/" + "?".repeat(39), 0, 15);
            Check.write(gate, "/".repeat(length));
            gate.clear();
            Check.due("it is empty", gate.fits(0), -2);
            gate.clear();
            gate.type('/');
            for (int i = 1; i < 40; i++) {
                Check.due("room for 40", gate.type('a'), true);
            }
            Check.due("not for more", gate.type('a'), false);
            Check.due("only the new ones are there", gate.fits(0), 1);
        }
    }

    private static void sixteenExpressions() {
        Check.about("Promise 4: A new expression: its number. -1, refused, if there are 16");
        RequestGate gate = withExpressions(15);
        Check.due("the sixteenth", gate.expression(4, 14, 0), 15);
        Check.due("it is there", Check.rule(gate, "/", 15, 1), 0);
        for (int op = 0; op <= 9; op++) {
            Check.due("a seventeenth", gate.expression(op, 0, 0), -1);
        }
        Check.due("it is not there", Check.rule(gate, "/", 16, 1), -1);
        gate.service(-1, -1, 15);
        gate.declare(0, 0, -1);
        Check.due("the sixteenth is NOT YES", gate.call(0, 0, 0), 0);
    }

    private static void operatorsAreZeroToNine() {
        Check.about("Promise 4: -1, refused, if .. op is not 0 .. 9");
        RequestGate gate = withExpressions(1);
        int made = 1;
        for (int op = -3; op <= 12; op++) {
            int due = op >= 0 && op <= 9 ? made++ : -1;
            Check.due("op " + op, gate.expression(op, 0, 0), due);
        }
        Check.due("op " + LEAST, gate.expression(LEAST, 0, 0), -1);
        Check.due("op " + GREATEST, gate.expression(GREATEST, 0, 0), -1);
        Check.due("the next one", gate.expression(0, 0, 0), made);
    }

    private static void rolesOfExpressions() {
        Check.about("Promise 4: -1, refused, if .. a is not a role (op 3)");
        RequestGate gate = new RequestGate();
        int made = 0;
        for (int a = -2; a <= 9; a++) {
            int due = a >= 0 && a <= 7 ? made++ : -1;
            Check.due("ROLE " + a, gate.expression(3, a, 0), due);
        }
        Check.due("ROLE " + LEAST, gate.expression(3, LEAST, 0), -1);
        Check.due("ROLE " + GREATEST, gate.expression(3, GREATEST, 0), -1);
    }

    private static void partsAreEarlierExpressions() {
        Check.about("Promise 4: -1, refused, if .. a, or b where there is a y, is no expression (op 4 to 6)");
        for (int there = 0; there < 16; there++) {
            for (int op = 4; op <= 6; op++) {
                RequestGate gate = withExpressions(there);
                for (int n : new int[] {-1, there, there + 1, 16, LEAST, GREATEST}) {
                    Check.due("op " + op + ", x " + n + " of " + there, gate.expression(op, n, 0), -1);
                    if (op > 4) {
                        Check.due("op " + op + ", y " + n + " of " + there, gate.expression(op, 0, n), -1);
                    }
                }
                int last = there - 1;
                Check.due("op " + op + " of the last of " + there, gate.expression(op, last, last), there > 0 ? there : -1);
            }
        }
    }

    private static void numbersThatAreNotUsed() {
        Check.about("Promise 4: Numbers that an operator does not use may be any.");
        for (int any : new int[] {LEAST, -1, 9, 16, GREATEST}) {
            RequestGate gate = withExpressions(1);
            int made = 1;
            for (int op : new int[] {0, 1, 2, 7}) {
                Check.due("op " + op + " with " + any, gate.expression(op, any, any), made++);
            }
            Check.due("ROLE with b " + any, gate.expression(3, 0, any), made++);
            Check.due("NOT with b " + any, gate.expression(4, 0, any), made++);
            Check.due("BELOW with b " + any, gate.expression(8, any, any), made++);
            Check.due("SHARE with " + any, gate.expression(9, any, any), made++);
            Check.due("AND uses b", gate.expression(5, 0, any), -1);
            Check.due("OR uses b", gate.expression(6, 0, any), -1);
        }
    }

    private static void eightRules() {
        Check.about("Promise 5: A new rule .. its number. -1, refused, if there are 8");
        RequestGate gate = withExpressions(1);
        for (int i = 0; i < 8; i++) {
            Check.due("rule " + i, Check.rule(gate, "/" + i, 0, 15), i);
        }
        Check.due("a ninth", Check.rule(gate, "/8", 0, 15), -1);
        Check.due("it is not there", gate.fits(8), -1);
        Check.due("nor does it decide", gate.open(0, 0, 0, 0, 0), 403);
        for (int i = 0; i < 8; i++) {
            Check.due("rule " + i + " decides", Check.get(gate, "/" + i, 0), 200 + i);
            gate.close();
        }
    }

    private static void methodsAreOneToFifteen() {
        Check.about("Promise 5: -1, refused, if .. methods is not 1 .. 15; bit i for i of 0 GET, 1 HEAD, 2 POST, 3 DELETE");
        for (int methods = -1; methods <= 17; methods++) {
            RequestGate gate = withExpressions(1);
            boolean taken = methods >= 1 && methods <= 15;
            Check.due("methods " + methods, Check.rule(gate, "/", 0, methods), taken ? 0 : -1);
            gate.user(1, 0, 1);
            int session = gate.login(0, 1, 0, false);
            for (int method = 0; method < 4 && taken; method++) {
                boolean has = (methods >> method) % 2 == 1;
                Check.due("methods " + methods + ", " + method, Check.open(gate, "/", method, session, session + 1), has ? 200 : 403);
                gate.close();
            }
        }
    }

    private static void expressionOfARule() {
        Check.about("Promise 5: -1, refused, if .. there is no such expression (-1 for none is none)");
        for (int there = 0; there <= 16; there++) {
            RequestGate gate = withExpressions(there);
            for (int e : new int[] {-2, -1, there, 16, LEAST, GREATEST}) {
                Check.due("expression " + e + " of " + there, Check.rule(gate, "/", e, 1), -1);
            }
            Check.due("the last of " + there, Check.rule(gate, "/", there - 1, 1), there > 0 ? 0 : -1);
        }
    }

    private static void ruleEmptiesTheBuffer() {
        Check.about("Promise 5: and the buffer becomes empty (refused: it stays)");
        RequestGate gate = withExpressions(1);
        Check.due("refused", Check.rule(gate, "/a", 0, 0), -1);
        Check.due("refused", gate.rule(1, 1), -1);
        Check.due("what stayed is the pattern", gate.rule(0, 1), 0);
        Check.due("empty", gate.fits(0), -2);
        Check.due("no second rule of it", gate.rule(0, 1), -1);
        Check.write(gate, "/a");
        Check.due("it was /a", gate.fits(0), 1);
    }

    private static void rolesAreZeroToSeven() {
        Check.about("Promise 6: false, refused, if one is not 0 .. 7");
        for (int n = -2; n <= 9; n++) {
            RequestGate gate = new RequestGate();
            boolean role = n >= 0 && n <= 7;
            int other = n == 0 ? 1 : 0;
            Check.due("role(" + n + ", " + other + ")", gate.role(n, other), role);
            Check.due("role(" + other + ", " + n + ")", gate.role(other, n), role);
        }
        RequestGate gate = new RequestGate();
        Check.due("from the last to the first", gate.role(7, 0), true);
        Check.due("from the first to the last", gate.role(0, 7), true);
    }

    private static void includesAlready() {
        Check.about("Promise 6: false, refused, if .. r includes s already");
        RequestGate gate = new RequestGate();
        Check.due("role(3, 3)", gate.role(3, 3), false);
        Check.due("role(3, 5)", gate.role(3, 5), true);
        Check.due("role(3, 5) again", gate.role(3, 5), false);
        Check.due("the other way round", gate.role(5, 3), true);
        Check.due("again", gate.role(5, 3), false);
        Check.due("role(6, 3)", gate.role(6, 3), true);
        Check.due("5 by 3", gate.role(6, 5), false);
        Check.due("5 does not include 6", gate.role(5, 6), true);
        Check.due("3 does by 5", gate.role(3, 6), false);
    }

    private static void longestChainOfRoles() {
        Check.about("A role INCLUDES itself, the roles that role() added to it, what those include, and so on.");
        for (int up = 0; up < 2; up++) {
            RequestGate gate = new RequestGate();
            for (int i = 0; i < 7; i++) {
                int r = up == 1 ? i : 6 - i;
                Check.due("a chain", gate.role(r, r + 1), true);
            }
            for (int r = 0; r < 8; r++) {
                for (int s = r; s < 8; s++) {
                    Check.due(r + " includes " + s, gate.role(r, s), false);
                }
            }
            Check.due("7 does not include 0", gate.role(7, 0), true);
            for (int n = 0; n < 64; n++) {
                Check.due("in a circle each includes each", gate.role(n / 8, n % 8), false);
            }
        }
    }

    private static void sixUsers() {
        Check.about("Promise 7: The user's number; -1, refused, if there are 6");
        RequestGate gate = withExpressions(1);
        Check.rule(gate, "/", 0, 15);
        for (int i = 0; i < 6; i++) {
            Check.due("no user " + i + " yet", gate.login(i, 20 + i, 0, false), -1);
            Check.due("user " + i, gate.user(20 + i, i, 1), i);
        }
        Check.due("a seventh", gate.user(26, 0, 0), -1);
        Check.due("it is not there", gate.login(6, 26, 0, false), -1);
        Check.due("it has no hash", gate.hash(6), 0);
        int session = gate.login(5, 25, 0, true);
        Check.due("the sixth logs in", session, 7);
        Check.get(gate, "/", session);
        Check.due("who", gate.who(), 5);
        gate.close();
        Check.open(gate, "/", 0, 0, 0, session + 2, session + 3);
        Check.due("who, remembered", gate.who(), 13);
    }

    private static void givenRolesAndScheme() {
        Check.about("Promise 7: -1, refused, if .. roles is not 0 .. 255 or scheme is not 0 or 1");
        int[][] rolesAndScheme = {{0, 0}, {255, 0}, {0, 1}, {255, 1}};
        int[][] wrong = {{-1, 0}, {256, 0}, {-1, 1}, {256, 1}, {0, -1}, {0, 2}, {255, -1}, {255, 2}, {LEAST, 0}, {GREATEST, 1},
            {0, LEAST}, {0, GREATEST}, {-256, 1}, {65536, 1}};
        RequestGate gate = new RequestGate();
        int made = 0;
        for (int[] u : rolesAndScheme) {
            Check.due("roles " + u[0] + ", scheme " + u[1], gate.user(1, u[0], u[1]), made++);
            for (int[] w : wrong) {
                Check.due("roles " + w[0] + ", scheme " + w[1], gate.user(1, w[0], w[1]), -1);
            }
            Check.due("salts drawn", gate.count(5), made);
        }
    }

    private static void saltsAreDrawn() {
        Check.about("NUMBERS are DRAWN one after the other: 1, 2, 3, ..; Promise 7: the salt is drawn");
        RequestGate gate = new RequestGate();
        Check.due("drawn", gate.count(5), 0);
        for (int i = 0; i < 6; i++) {
            gate.user(1, 256, 1);
            gate.user(7, 0, i % 2);
            Check.due("salt " + (i + 1), gate.hash(i), Check.hash(7, i % 2, i + 1));
            Check.due("drawn", gate.count(5), i + 1);
        }
        gate.user(7, 0, 0);
        Check.due("drawn", gate.count(5), 6);
    }

    private static void hashesWrap() {
        Check.about("h .. 4 times (scheme 0) or 9 times (scheme 1) .. (zeros come in) ..; sums and products wrap");
        for (int[] h : HASHES) {
            RequestGate gate = new RequestGate();
            gate.user(h[0], 0, h[1]);
            Check.due("hash of " + h[0] + " by scheme " + h[1], gate.hash(0), h[2]);
            Check.due("the same as by sums of longs", gate.hash(0), Check.hash(h[0], h[1], 1));
            Check.due("the password is good", gate.login(0, h[0], 0, false) > 0, true);
        }
    }

    private static void hashOfNoUserIsZero() {
        Check.about("Promise 20: The hash of a user; 0 if there is no such user.");
        for (int there = 0; there <= 6; there++) {
            RequestGate gate = new RequestGate();
            for (int i = 0; i < there; i++) {
                gate.user(5 + i, 0, 0);
            }
            for (int n : new int[] {-1, there, 6, 7, LEAST, GREATEST}) {
                Check.due("user " + n + " of " + there, gate.hash(n), 0);
            }
            for (int i = 0; i < there; i++) {
                Check.due("user " + i + " of " + there, gate.hash(i), Check.hash(5 + i, 0, i + 1));
            }
        }
    }

    private static void sixTypes() {
        Check.about("Promise 8: A new type: its number. -1, refused, if there are 6");
        RequestGate gate = withExpressions(1);
        for (int i = 0; i < 6; i++) {
            Check.due("no type " + i + " yet", gate.declare(i, 0, -1), false);
            Check.due("type " + i, gate.service(i - 1, i - 1, 0), i);
        }
        Check.due("a seventh", gate.service(-1, -1, -1), -1);
        Check.due("it is not there", gate.declare(6, 0, -1), false);
        Check.due("nor called", gate.call(6, 0, 0), -1);
        Check.due("the first", gate.declare(0, 3, -1), true);
        Check.due("a line of six", gate.call(5, 3, 0), 1);
    }

    private static void parentAndFaceAreEarlierTypes() {
        Check.about("Promise 8: -1, refused, if .. parent or face (its interface) is neither -1 nor an earlier type");
        for (int there = 0; there < 6; there++) {
            RequestGate gate = withTypes(there);
            for (int n : new int[] {-2, there, there + 1, 6, LEAST, GREATEST}) {
                Check.due("parent " + n + " of " + there, gate.service(n, -1, -1), -1);
                Check.due("face " + n + " of " + there, gate.service(-1, n, -1), -1);
            }
            Check.due("the last of " + there + " as both, or none", gate.service(there - 1, there - 1, -1), there);
        }
    }

    private static void conditionsOfTypes() {
        Check.about("Promises 8, 9: condition is neither -1 nor an expression");
        for (int there = 0; there <= 16; there++) {
            RequestGate gate = withExpressions(there);
            for (int n : new int[] {-2, there, there + 1, 16, LEAST, GREATEST}) {
                Check.due("service, condition " + n + " of " + there, gate.service(-1, -1, n), -1);
            }
            Check.due("service, the last of " + there + ", or none", gate.service(-1, -1, there - 1), 0);
            for (int n : new int[] {-2, there, there + 1, 16, LEAST, GREATEST}) {
                Check.due("declare, condition " + n + " of " + there, gate.declare(0, 1, n), false);
                Check.due("nothing is declared", gate.call(0, 1, 0), -1);
            }
            Check.due("declare, the last of " + there + ", or none", gate.declare(0, 1, there - 1), true);
            Check.due("now it is", gate.call(0, 1, 0), 1);
        }
    }

    private static void operationsAreZeroToThree() {
        Check.about("Promise 9: A type declares an operation (0 .. 3) .. False, refused, if there is no such type or operation");
        RequestGate gate = withTypes(2);
        for (int type = -1; type <= 2; type++) {
            for (int operation = -1; operation <= 4; operation++) {
                boolean there = type >= 0 && type < 2 && operation >= 0 && operation < 4;
                Check.due("call before", gate.call(type, operation, 0), -1);
                Check.due("declare(" + type + ", " + operation + ")", gate.declare(type, operation, -1), there);
                Check.due("call after", gate.call(type, operation, 0), there ? 1 : -1);
            }
        }
        for (int n : new int[] {LEAST, GREATEST}) {
            Check.due("type " + n, gate.declare(n, 0, -1), false);
            Check.due("operation " + n, gate.declare(0, n, -1), false);
        }
    }

    private static void declaresThatAlready() {
        Check.about("Promise 9: False, refused, if .. it declares that already");
        RequestGate gate = new RequestGate();
        gate.expression(0, 0, 0);
        gate.expression(1, 0, 0);
        gate.service(-1, -1, -1);
        gate.service(0, 0, -1);
        Check.due("without a condition", gate.declare(0, 0, -1), true);
        Check.due("again with one", gate.declare(0, 0, 1), false);
        Check.due("the first one stays", gate.call(0, 0, 0), 1);
        Check.due("with a condition", gate.declare(0, 1, 1), true);
        Check.due("again with another", gate.declare(0, 1, 0), false);
        Check.due("again without", gate.declare(0, 1, -1), false);
        Check.due("the first one stays", gate.call(0, 1, 0), 0);
        Check.due("another type may, though its parent and its interface do", gate.declare(1, 0, -1), true);
        Check.due("another operation may", gate.declare(0, 2, -1), true);
    }
}
