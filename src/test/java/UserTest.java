/** Promises 7 (user) and 20 (hash). */
public final class UserTest {
    public static void main(String[] args) {
        numbersAndLimit();
        wrongInputs();
        hashes();
        hashOfNobody();
        Check.end();
    }

    private static void numbersAndLimit() {
        RequestGate gate = new RequestGate();
        for (int i = 0; i < 6; i++) {
            Check.due("user " + i, gate.user(i, i == 0 ? 0 : 255, i % 2), i);
            Check.due("a salt is drawn", gate.count(5), i + 1);
        }
        Check.due("user 6", gate.user(6, 0, 0), -1);
        Check.due("none is drawn", gate.count(5), 6);
        Check.due("hash(6)", gate.hash(6), 0);
    }

    private static void wrongInputs() {
        RequestGate gate = new RequestGate();
        int[][] wrong = {{-1, 0}, {256, 0}, {Integer.MIN_VALUE, 0}, {Integer.MAX_VALUE, 1}, {0, -1}, {0, 2}, {255, Integer.MAX_VALUE}};
        for (int[] u : wrong) {
            Check.due("user(5, " + u[0] + ", " + u[1] + ")", gate.user(5, u[0], u[1]), -1);
        }
        Check.due("refused ones draw nothing", gate.count(5), 0);
        Check.due("the first user", gate.user(5, 0, 0), 0);
    }

    private static void hashes() {
        Check.due("a hash told in the tests", Check.hash(77, 0, 1), 3293772);
        int[] passwords = {0, 1, -1, 77, Integer.MIN_VALUE, Integer.MAX_VALUE, 0x12345678, -987654321};
        for (int scheme = 0; scheme < 2; scheme++) {
            for (int password : passwords) {
                RequestGate gate = new RequestGate();
                gate.user(0, 0, 0);
                gate.user(password, 0, scheme);
                gate.user(password, 0, scheme);
                Check.due("hash of " + password + " by " + scheme, gate.hash(1), Check.hash(password, scheme, 2));
                Check.due("with another salt", gate.hash(2), Check.hash(password, scheme, 3));
            }
        }
    }

    private static void hashOfNobody() {
        RequestGate gate = new RequestGate();
        gate.user(9, 0, 0);
        for (int user : new int[] {-1, 1, 5, 6, Integer.MIN_VALUE, Integer.MAX_VALUE}) {
            Check.due("hash(" + user + ")", gate.hash(user), 0);
        }
    }
}
