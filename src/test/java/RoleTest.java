/** Promise 6 (role), and which roles a user has. */
public final class RoleTest {
    public static void main(String[] args) {
        wrongInputs();
        inclusionGoesOn();
        circlesAreFine();
        givenRolesCount();
        rolesAddedLaterCount();
        Check.end();
    }

    private static void wrongInputs() {
        RequestGate gate = new RequestGate();
        int[][] wrong = {{-1, 0}, {0, -1}, {8, 0}, {0, 8}, {Integer.MIN_VALUE, 1}, {1, Integer.MAX_VALUE}, {32, 1}, {1, 33}};
        for (int[] r : wrong) {
            Check.due("role(" + r[0] + ", " + r[1] + ")", gate.role(r[0], r[1]), false);
        }
        for (int r = 0; r < 8; r++) {
            Check.due("a role includes itself", gate.role(r, r), false);
        }
        Check.due("role(0, 7)", gate.role(0, 7), true);
        Check.due("role(0, 7) again", gate.role(0, 7), false);
        Check.due("role(7, 0)", gate.role(7, 0), true);
    }

    private static void inclusionGoesOn() {
        RequestGate gate = new RequestGate();
        Check.due("role(2, 3)", gate.role(2, 3), true);
        Check.due("role(0, 1)", gate.role(0, 1), true);
        Check.due("role(1, 2)", gate.role(1, 2), true);
        Check.due("0 includes 3 by 1 and 2", gate.role(0, 3), false);
        Check.due("0 includes 2 by 1", gate.role(0, 2), false);
        Check.due("1 includes 3 by 2", gate.role(1, 3), false);
        Check.due("3 does not include 0", gate.role(3, 4), true);
        Check.due("what was added below counts above", gate.role(0, 4), false);
        Check.due("5 is not included", gate.role(4, 5), true);
    }

    private static void circlesAreFine() {
        RequestGate gate = new RequestGate();
        Check.due("role(1, 2)", gate.role(1, 2), true);
        Check.due("role(2, 3)", gate.role(2, 3), true);
        Check.due("role(3, 1)", gate.role(3, 1), true);
        Check.due("role(2, 1)", gate.role(2, 1), false);
        Check.due("role(3, 2)", gate.role(3, 2), false);
        Check.due("role(2, 6)", gate.role(2, 6), true);
        Check.due("role(1, 6)", gate.role(1, 6), false);
        Check.due("role(3, 6)", gate.role(3, 6), false);
        Check.due("role(6, 3)", gate.role(6, 3), true);
        Check.due("role(6, 1)", gate.role(6, 1), false);
    }

    /** Rule 0 lets all through; the operations of types 0 and 1 tell by their conditions which of the eight roles the subject has. */
    private static RequestGate tellingRoles(int given) {
        RequestGate gate = new RequestGate();
        gate.expression(0, 0, 0);
        for (int r = 0; r < 8; r++) {
            gate.expression(3, r, 0);
        }
        Check.rule(gate, "/", 0, 1);
        gate.user(1, given, 1);
        gate.service(-1, -1, -1);
        gate.service(-1, -1, -1);
        for (int r = 0; r < 8; r++) {
            gate.declare(r / 4, r % 4, 1 + r);
        }
        return gate;
    }

    private static void givenRolesCount() {
        for (int given = 0; given < 256; given++) {
            RequestGate gate = tellingRoles(given);
            int session = gate.login(0, 1, 0, true);
            Check.get(gate, "/", session);
            due(gate, given);
            gate.close();
            Check.open(gate, "/", 0, 0, 0, session + 2, session + 3);
            Check.due("remembered", gate.who(), 8);
            due(gate, given);
        }
    }

    private static void rolesAddedLaterCount() {
        RequestGate gate = tellingRoles(128 + 2);
        Check.get(gate, "/", gate.login(0, 1, 0, false));
        due(gate, 128 + 2);
        gate.role(1, 4);
        due(gate, 128 + 16 + 2);
        gate.role(4, 5);
        due(gate, 128 + 32 + 16 + 2);
        gate.role(3, 0);
        due(gate, 128 + 32 + 16 + 2);
        gate.role(7, 3);
        due(gate, 128 + 32 + 16 + 8 + 2 + 1);
        gate.close();
        due(gate, 0);
    }

    private static void due(RequestGate gate, int roles) {
        for (int r = 0; r < 8; r++) {
            Check.due("has role " + r + " of " + roles, gate.call(r / 4, r % 4, 0), (roles >> r) & 1);
        }
    }
}
