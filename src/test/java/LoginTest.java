/** Promises 10 (tick), 11 (login), 12 (logout), 18 (session) and 19 (series). */
public final class LoginTest {
    private static final int LEAST = Integer.MIN_VALUE;
    private static final int GREATEST = Integer.MAX_VALUE;

    public static void main(String[] args) {
        ticks();
        noSuchUser();
        numbersOfALogin();
        oldSchemeMovesOn();
        threeWrongInARowLock();
        theRowIsBroken();
        sessionsDie();
        thirdSessionEndsOne();
        loginEndsTheSessionGiven();
        thirdSeriesEndsTheOlder();
        logouts();
        sessionAnswers();
        Check.end();
    }

    private static RequestGate withUsers(int n) {
        RequestGate gate = new RequestGate();
        gate.expression(0, 0, 0);
        Check.rule(gate, "/**", 0, 15);
        for (int i = 0; i < n; i++) {
            gate.user(10 + i, 0, 1);
        }
        return gate;
    }

    private static void sessions(RequestGate gate, String text, int user, int first, int second) {
        Check.due(text + ": first session of " + user, gate.session(user, 0, 0), first);
        Check.due(text + ": second session of " + user, gate.session(user, 1, 0), second);
    }

    private static void memory(RequestGate gate, String text, int user, int first, int second) {
        Check.due(text + ": older series of " + user, gate.series(user, 0, 0), first);
        Check.due(text + ": newer series of " + user, gate.series(user, 1, 0), second);
    }

    /** Asks with a session, so that it was last used now, and ends the request. */
    private static void use(RequestGate gate, int session) {
        Check.get(gate, "/", session);
        gate.close();
    }

    private static void ticks() {
        RequestGate gate = new RequestGate();
        for (int n : new int[] {0, -1, 101, LEAST, GREATEST}) {
            Check.due("tick(" + n + ")", gate.tick(n), false);
            Check.due("time", gate.count(6), 0);
        }
        Check.due("tick(1)", gate.tick(1), true);
        Check.due("tick(100)", gate.tick(100), true);
        Check.due("time", gate.count(6), 101);
    }

    private static void noSuchUser() {
        RequestGate gate = withUsers(1);
        for (int user : new int[] {-1, 1, 6, LEAST, GREATEST}) {
            for (int i = 0; i < 4; i++) {
                Check.due("login(" + user + ")", gate.login(user, 10, 0, true), -1);
            }
        }
        Check.due("none is locked", gate.count(4), 0);
        Check.due("none is drawn", gate.count(5), 1);
    }

    private static void numbersOfALogin() {
        RequestGate gate = withUsers(2);
        Check.due("ID", gate.login(1, 11, 0, false), 3);
        Check.due("token", gate.session(1, 0, 1), 4);
        Check.due("not remembered", gate.session(1, 0, 2), 0);
        memory(gate, "not asked for", 1, -1, -1);
        Check.due("drawn", gate.count(5), 4);
        Check.due("ID", gate.login(1, 11, 0, true), 5);
        Check.due("token", gate.session(1, 1, 1), 6);
        Check.due("not remembered", gate.session(1, 1, 2), 0);
        memory(gate, "asked for", 1, 7, -1);
        Check.due("token of the series", gate.series(1, 0, 1), 8);
        Check.due("drawn", gate.count(5), 8);
        sessions(gate, "the other user", 0, -1, -1);
        memory(gate, "the other user", 0, -1, -1);
        Check.due("a login opens no request", gate.who(), -1);
    }

    private static void oldSchemeMovesOn() {
        RequestGate gate = new RequestGate();
        gate.user(-7, 0, 0);
        Check.due("hash by scheme 0", gate.hash(0), Check.hash(-7, 0, 1));
        Check.due("wrong password", gate.login(0, -8, 0, true), -3);
        Check.due("still by scheme 0", gate.hash(0), Check.hash(-7, 0, 1));
        Check.due("the new salt is drawn before the ID", gate.login(0, -7, 0, true), 3);
        Check.due("hash by scheme 1", gate.hash(0), Check.hash(-7, 1, 2));
        memory(gate, "series", 0, 5, -1);
        Check.due("drawn", gate.count(5), 6);
        Check.due("no salt more", gate.login(0, -7, 0, false), 7);
        Check.due("the hash stays", gate.hash(0), Check.hash(-7, 1, 2));
        Check.due("wrong password", gate.login(0, -8, 0, true), -3);
    }

    private static void threeWrongInARowLock() {
        RequestGate gate = withUsers(2);
        gate.tick(7);
        for (int round = 1; round <= 2; round++) {
            for (int i = 0; i < 3; i++) {
                Check.due("locked so far", gate.count(4), round - 1);
                Check.due("wrong password", gate.login(0, 9, 0, true), -3);
            }
            Check.due("locked so far", gate.count(4), round);
            Check.due("right password, locked", gate.login(0, 10, 0, true), -2);
            Check.due("wrong password, locked", gate.login(0, 9, 0, true), -2);
            gate.tick(9);
            Check.due("nine later", gate.login(0, 10, 0, true), -2);
            Check.due("nine later, wrong password", gate.login(0, 9, 0, true), -2);
            Check.due("tries while locked do not lock", gate.count(4), round);
            gate.tick(1);
        }
        Check.due("another user is not locked", gate.login(1, 11, 0, false), 3);
        Check.due("ten later", gate.login(0, 10, 0, false), 5);
        Check.due("locked twice", gate.count(4), 2);
    }

    private static void theRowIsBroken() {
        RequestGate gate = withUsers(2);
        for (int i = 0; i < 3; i++) {
            Check.due("wrong", gate.login(0, 9, 0, false), -3);
            Check.due("wrong", gate.login(0, 9, 0, false), -3);
            Check.due("wrong, the other user", gate.login(1, 10, 0, false), -3);
            Check.due("right", gate.login(0, 10, 0, false) > 0, true);
        }
        Check.due("only the other user was locked", gate.count(4), 1);
        Check.due("the other user is", gate.login(1, 11, 0, false), -2);
        gate.tick(10);
        Check.due("the row begins anew after the lock", gate.login(1, 9, 0, false), -3);
        Check.due("second wrong one", gate.login(1, 9, 0, false), -3);
        Check.due("not locked", gate.login(1, 11, 0, false) > 0, true);
        Check.due("wrong", gate.login(1, 9, 0, false), -3);
        gate.tick(50);
        Check.due("wrong", gate.login(1, 9, 0, false), -3);
        gate.tick(50);
        Check.due("time does not break the row", gate.login(1, 9, 0, false), -3);
        Check.due("locked", gate.login(1, 11, 0, false), -2);
    }

    private static void sessionsDie() {
        RequestGate gate = withUsers(2);
        int id = gate.login(0, 10, 0, false);
        gate.tick(20);
        sessions(gate, "rested 20", 0, id, -1);
        use(gate, id);
        gate.tick(20);
        use(gate, id);
        gate.tick(20);
        use(gate, id);
        sessions(gate, "60 old", 0, id, -1);
        gate.tick(1);
        sessions(gate, "61 old, rested 1", 0, -1, -1);
        Check.due("logout of a dead one", gate.logout(id), false);

        int other = gate.login(0, 10, 0, false);
        gate.tick(20);
        Check.due("looking is no use", gate.session(0, 0, 0), other);
        gate.tick(1);
        sessions(gate, "rested 21", 0, -1, -1);
        Check.get(gate, "/", other);
        Check.due("a dead one asks for nobody", gate.who(), -1);
        gate.close();

        int first = gate.login(0, 10, 0, false);
        gate.tick(15);
        int second = gate.login(0, 10, 0, false);
        gate.tick(10);
        sessions(gate, "the first died", 0, second, -1);
        int third = gate.login(0, 10, first, false);
        sessions(gate, "a dead one takes no place", 0, second, third);
    }

    private static void thirdSessionEndsOne() {
        RequestGate gate = withUsers(2);
        int a = gate.login(0, 10, 0, false);
        int b = gate.login(0, 10, 0, false);
        int other = gate.login(1, 11, 0, false);
        int c = gate.login(0, 10, 0, false);
        sessions(gate, "used at the same time: the least ID ends", 0, b, c);
        sessions(gate, "the other user's stays", 1, other, -1);
        gate.tick(1);
        use(gate, b);
        int d = gate.login(0, 10, 0, false);
        sessions(gate, "used longest ago: the greater ID ends", 0, b, d);
        use(gate, b);
        int e = gate.login(0, 10, 0, false);
        sessions(gate, "used at the same time again", 0, d, e);
        gate.tick(3);
        use(gate, e);
        gate.tick(1);
        use(gate, d);
        int f = gate.login(0, 10, 0, false);
        sessions(gate, "used longest ago", 0, d, f);
    }

    private static void loginEndsTheSessionGiven() {
        RequestGate gate = withUsers(2);
        int a = gate.login(0, 10, 0, true);
        int b = gate.login(0, 10, 0, false);
        int c = gate.login(0, 10, b, false);
        sessions(gate, "one's own ends, so that there is room", 0, a, c);
        int d = gate.login(1, 11, a, false);
        sessions(gate, "whoever's it is", 0, c, -1);
        sessions(gate, "the new one", 1, d, -1);
        memory(gate, "the series stays", 0, a + 2, -1);
        Check.due("wrong password", gate.login(1, 10, c, false), -3);
        sessions(gate, "nothing ends", 0, c, -1);
        Check.due("no such user", gate.login(2, 10, c, false), -1);
        gate.login(1, 9, c, false);
        gate.login(1, 9, c, false);
        Check.due("locked", gate.login(1, 11, c, false), -2);
        sessions(gate, "nothing ends", 0, c, -1);
        sessions(gate, "a lock ends no session", 1, d, -1);
        int e = gate.login(0, 10, a + 2, false);
        sessions(gate, "the ID of a series is none of a session", 0, c, e);
        memory(gate, "the series stays", 0, a + 2, -1);
        Check.get(gate, "/", c);
        gate.login(1, 11, c, false);
        Check.due("the open request keeps its subject", gate.who(), 0);
    }

    private static void thirdSeriesEndsTheOlder() {
        RequestGate gate = withUsers(2);
        int a = gate.login(0, 10, 0, true) + 2;
        memory(gate, "one", 0, a, -1);
        int b = gate.login(0, 10, 0, true) + 2;
        int other = gate.login(1, 11, 0, true) + 2;
        memory(gate, "two", 0, a, b);
        gate.tick(30);
        Check.open(gate, "/", 0, 0, 0, a, a + 1);
        gate.close();
        int token = gate.series(0, 0, 1);
        Check.due("its token was drawn anew", token, other + 2);
        int c = gate.login(0, 10, 0, true) + 2;
        memory(gate, "the older one ended, though it was used", 0, b, c);
        memory(gate, "the other user's stays", 1, other, -1);
        gate.tick(100);
        gate.tick(100);
        memory(gate, "series do not die by time", 0, b, c);
    }

    private static void logouts() {
        RequestGate gate = withUsers(2);
        int a = gate.login(0, 10, 0, true);
        int b = gate.login(0, 10, 0, true);
        int other = gate.login(1, 11, 0, true);
        for (int id : new int[] {0, -1, 1, a + 1, a + 2, other + 4, LEAST, GREATEST}) {
            Check.due("logout(" + id + ")", gate.logout(id), false);
        }
        memory(gate, "refused ones change nothing", 0, a + 2, b + 2);
        Check.get(gate, "/", a);
        Check.due("logout", gate.logout(a), true);
        Check.due("again", gate.logout(a), false);
        Check.due("the open request keeps its subject", gate.who(), 0);
        sessions(gate, "only that one ends", 0, b, -1);
        memory(gate, "all series end", 0, -1, -1);
        sessions(gate, "the other user's stays", 1, other, -1);
        memory(gate, "the other user's stays", 1, other + 2, -1);
        gate.close();
        Check.get(gate, "/", a);
        Check.due("an ended session asks for nobody", gate.who(), -1);
        gate.close();
        Check.open(gate, "/", 0, 0, 0, a + 2, a + 3);
        Check.due("an ended series asks for nobody", gate.who(), -1);
        Check.due("and is no theft", gate.count(3), 0);
        gate.tick(21);
        Check.due("logout of a dead one", gate.logout(other), false);
        memory(gate, "changes nothing", 1, other + 2, -1);
    }

    private static void sessionAnswers() {
        RequestGate gate = withUsers(2);
        gate.login(0, 10, 0, true);
        int id = gate.login(0, 10, 0, true);
        int[] none = {-1, 2, 3, LEAST, GREATEST};
        for (int n : none) {
            for (int what = 0; what < 3; what++) {
                Check.due("session of place " + n, gate.session(0, n, what), -1);
                Check.due("series of place " + n, gate.series(0, n, what), -1);
                Check.due("session of user " + n, gate.session(n, 0, what), -1);
                Check.due("series of user " + n, gate.series(n, 0, what), -1);
            }
        }
        for (int what : new int[] {-1, 3, LEAST, GREATEST}) {
            Check.due("session, what " + what, gate.session(0, 0, what), -1);
            Check.due("series, what " + what, gate.series(0, 0, what), -1);
        }
        Check.due("series, what 2", gate.series(0, 0, 2), -1);
        Check.due("session of a user without", gate.session(1, 0, 0), -1);
        Check.due("series of a user without", gate.series(1, 0, 0), -1);
        Check.due("ID", gate.session(0, 1, 0), id);
        Check.due("token", gate.session(0, 1, 1), id + 1);
        Check.due("not remembered", gate.session(0, 1, 2), 0);
        Check.due("ID of the series", gate.series(0, 1, 0), id + 2);
        Check.due("token of the series", gate.series(0, 1, 1), id + 3);
    }
}
