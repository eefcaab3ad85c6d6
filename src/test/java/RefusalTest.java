/** "What is refused changes nothing": each call that each promise refuses, in gates of four kinds; and what only asks. */
public final class RefusalTest {
    private static final int LEAST = Integer.MIN_VALUE;
    private static final int GREATEST = Integer.MAX_VALUE;
    private static final int[] FAR = {LEAST, LEAST + 1, -2, 128, GREATEST - 1, GREATEST};

    // In a busy gate: what of these users is there, by the numbers drawn.
    private static final int DEAD = 5;
    private static final int SESSION = 7;
    private static final int SERIES = 9;
    private static final int USED_SESSION = 11;
    private static final int OTHERS_SESSION = 15;
    private static final int OTHERS_SERIES = 17;
    private static final int LOCKED = 2;
    private static final int TWICE_WRONG = 3;

    public static void main(String[] args) {
        busyGateIsAsItShouldBe();
        twinsTellEachChangeApart();
        type();
        expression();
        rule();
        role();
        user();
        service();
        declare();
        tick();
        loginOfNobody();
        loginWhenLocked();
        logout();
        openWithoutMethod();
        openWhenOpen();
        call();
        closeWhenNoneIsOpen();
        whatOnlyAsks();
        Check.end();
    }

    private static void fresh(RequestGate gate) {
    }

    /** Something of each kind and room for more, /a in the buffer, no request open. */
    private static void busy(RequestGate gate) {
        gate.expression(0, 0, 0);
        gate.expression(1, 0, 0);
        gate.expression(8, 3, 0);
        gate.expression(3, 2, 0);
        Check.rule(gate, "/a", 1, 3);
        Check.rule(gate, "/b/**", 2, 15);
        Check.rule(gate, "/**", 0, 15);
        gate.role(0, 1);
        gate.role(1, 2);
        gate.user(10, 1, 1);
        gate.user(11, 2, 1);
        gate.user(12, 0, 1);
        gate.user(13, 4, 0);
        gate.service(-1, -1, 1);
        gate.declare(0, 0, -1);
        gate.declare(0, 1, 2);
        gate.service(-1, -1, -1);
        gate.declare(1, 2, 3);
        gate.service(0, 1, -1);
        gate.declare(2, 2, -1);
        gate.declare(2, 3, -1);
        gate.login(0, 10, 0, false);
        gate.tick(21);
        gate.login(0, 10, 0, true);
        gate.tick(3);
        gate.login(0, 10, 0, true);
        gate.login(1, 11, 0, true);
        Check.open(gate, "/", 0, 0, 0, OTHERS_SERIES, OTHERS_SERIES + 1);
        gate.call(0, 0, 0);
        gate.close();
        gate.call(0, 0, 0);
        for (int i = 0; i < 3; i++) {
            gate.login(LOCKED, 9, 0, false);
        }
        gate.login(TWICE_WRONG, 9, 0, false);
        gate.login(TWICE_WRONG, 9, 0, false);
        gate.tick(2);
        Check.write(gate, "/a");
    }

    /** A busy gate with a request open, /b in the buffer. */
    private static void open(RequestGate gate) {
        busy(gate);
        gate.open(0, SESSION, 0, 0, 0);
        gate.tick(4);
        Check.write(gate, "/b");
    }

    /** A busy gate in which there is as much of each kind as there may be. */
    private static void full(RequestGate gate) {
        busy(gate);
        for (int i = 4; i < 16; i++) {
            gate.expression(4, i - 1, 0);
        }
        for (int i = 3; i < 8; i++) {
            Check.rule(gate, "/z" + i, i, 15);
        }
        for (int i = 4; i < 6; i++) {
            gate.user(10 + i, 1, 1);
        }
        for (int i = 3; i < 6; i++) {
            gate.service(i - 1, -1, -1);
            gate.declare(i, 0, 10 + i);
        }
        Check.write(gate, "/b" + "/aa".repeat(12) + "/a");
    }

    private static void busyGateIsAsItShouldBe() {
        Check.about("the gates of this test");
        RequestGate gate = new RequestGate();
        busy(gate);
        Check.due("dead", gate.logout(DEAD), false);
        Check.due("session", gate.session(0, 0, 0), SESSION);
        Check.due("another one, used later", gate.session(0, 1, 0), USED_SESSION);
        Check.due("series", gate.series(0, 0, 0), SERIES);
        Check.due("the other user's session", gate.session(1, 0, 0), OTHERS_SESSION);
        Check.due("the other user's series", gate.series(1, 0, 0), OTHERS_SERIES);
        Check.due("remembered", gate.session(1, 1, 2), 1);
        Check.due("locked", gate.login(LOCKED, 12, 0, false), -2);
        Check.due("wrong for the third time", gate.login(TWICE_WRONG, 9, 0, false), -3);
        Check.due("locked by it", gate.login(TWICE_WRONG, 13, 0, false), -2);
        RequestGate opened = new RequestGate();
        open(opened);
        Check.due("open", opened.who(), 0);
        RequestGate filled = new RequestGate();
        full(filled);
        Check.due("the last rule", filled.fits(7), 0);
        Check.due("the last user", filled.hash(5) != 0, true);
        Check.due("the last type", filled.declare(5, 1, 15), true);
        Check.due("the buffer is full", filled.type('a'), false);
    }

    /** These tests mean something only if each thing that could change is asked for. */
    private static void twinsTellEachChangeApart() {
        Check.about("the ways of asking of this test");
        Twins.Calls[] changes = {
            g -> g.type('b'), g -> g.clear(), g -> g.expression(0, 0, 0), g -> g.rule(0, 15), g -> g.user(1, 0, 0),
            g -> g.service(-1, -1, -1), g -> g.declare(2, 0, -1), g -> g.declare(2, 1, 0), g -> g.tick(1), g -> g.tick(21),
            g -> g.login(0, 9, 0, false), g -> g.login(TWICE_WRONG, 9, 0, false), g -> g.login(0, 10, 0, false),
            g -> g.login(0, 10, SESSION, true), g -> g.login(TWICE_WRONG, 13, 0, false), g -> g.logout(SESSION),
            g -> g.logout(USED_SESSION), g -> g.logout(OTHERS_SESSION), g -> g.open(0, 0, 0, 0, 0), g -> g.open(0, SESSION, 0, 0, 0),
            g -> g.open(2, SESSION, 0, 0, 0), g -> g.open(0, 0, 0, SERIES, SERIES + 1), g -> g.open(0, 0, 0, SERIES, 0),
            g -> g.call(1, 2, 0), g -> g.call(2, 0, 0), g -> g.call(2, 3, 0),
        };
        for (int i = 0; i < changes.length; i++) {
            Twins.Calls change = changes[i];
            Check.due("change " + i, Twins.tellsApart(RefusalTest::busy, g -> {
                busy(g);
                change.on(g);
            }), true);
        }
        for (int pair = 0; pair < 64; pair++) {
            int r = pair / 8;
            int s = pair % 8;
            RequestGate gate = new RequestGate();
            busy(gate);
            boolean added = gate.role(r, s);
            Check.due("role(" + r + ", " + s + ")", Twins.tellsApart(RefusalTest::busy, g -> {
                busy(g);
                g.role(r, s);
            }), added);
        }
        Check.due("an open request", Twins.tellsApart(RefusalTest::open, g -> {
            open(g);
            g.close();
        }), true);
        Check.due("no change", Twins.tellsApart(RefusalTest::busy, RefusalTest::busy), false);
    }

    private static void inNew(String text, Twins.Question call, long due) {
        Twins.unchanged(text + ", new", RefusalTest::fresh, call, due);
    }

    private static void inBusy(String text, Twins.Question call, long due) {
        Twins.unchanged(text + ", busy", RefusalTest::busy, call, due);
    }

    private static void inOpen(String text, Twins.Question call, long due) {
        Twins.unchanged(text + ", open", RefusalTest::open, call, due);
    }

    private static void inFull(String text, Twins.Question call, long due) {
        Twins.unchanged(text + ", full", RefusalTest::full, call, due);
    }

    private static void inEach(String text, Twins.Question call, long due) {
        inNew(text, call, due);
        inBusy(text, call, due);
        inOpen(text, call, due);
        inFull(text, call, due);
    }

    private static long bit(boolean answer) {
        return answer ? 1 : 0;
    }

    private static void type() {
        Check.about("Promise 2: false, refused, if c is not 33 .. 126 or 40 are there.");
        for (int c : new int[] {LEAST, -33, -1, 0, 31, 32, 127, 128, 256 + 'a', 65536 + 'a', GREATEST}) {
            inEach("type(" + c + ")", g -> bit(g.type(c)), 0);
        }
        for (int c : new int[] {33, '/', 'a', 126}) {
            inFull("type(" + c + ")", g -> bit(g.type(c)), 0);
        }
    }

    private static void expression() {
        Check.about("Promise 4: -1, refused, if there are 16, op is not 0 .. 9, a is not a role, or a or b is no expression.");
        for (int op : new int[] {LEAST, -1, 10, GREATEST}) {
            inEach("op " + op, g -> g.expression(op, 0, 0), -1);
        }
        for (int op = 0; op <= 9; op++) {
            int each = op;
            inFull("one more of op " + op, g -> g.expression(each, 0, 0), -1);
        }
        for (int a : new int[] {LEAST, -1, 8, 16, GREATEST}) {
            inEach("ROLE " + a, g -> g.expression(3, a, 0), -1);
        }
        for (int op = 4; op <= 6; op++) {
            int each = op;
            for (int n : new int[] {LEAST, -1, 4, 16, GREATEST}) {
                inBusy("op " + op + " of x " + n, g -> g.expression(each, n, 0), -1);
                if (op > 4) {
                    inBusy("op " + op + " of y " + n, g -> g.expression(each, 0, n), -1);
                }
            }
            inNew("op " + op + " of itself", g -> g.expression(each, 0, 0), -1);
        }
    }

    private static void rule() {
        Check.about("Promise 5: -1, refused, if there are 8, there is no such expression, methods is not 1 .. 15, or it is no pattern.");
        inFull("a ninth", g -> g.rule(0, 15), -1);
        Twins.unchanged("a ninth with a pattern", g -> {
            full(g);
            Check.write(g, "/a");
        }, g -> g.rule(0, 15), -1);
        for (int e : new int[] {LEAST, -1, 4, 16, GREATEST}) {
            inBusy("expression " + e, g -> g.rule(e, 15), -1);
        }
        for (int methods : new int[] {LEAST, -1, 0, 16, 17, 31, GREATEST}) {
            inBusy("methods " + methods, g -> g.rule(0, methods), -1);
        }
        inNew("nothing in the buffer", g -> g.rule(0, 15), -1);
        for (String text : new String[] {"", "a", "//", "/a/", "/a//a", "/***", "/a**", "/\\", "/%61", "/a;"}) {
            Twins.unchanged("no pattern: " + text, g -> {
                busy(g);
                Check.write(g, text);
            }, g -> g.rule(0, 15), -1);
        }
    }

    private static void role() {
        Check.about("Promise 6: false, refused, if one is not 0 .. 7 or r includes s already.");
        for (int n : new int[] {LEAST, -1, 8, 32, GREATEST}) {
            inEach("role(" + n + ", 1)", g -> bit(g.role(n, 1)), 0);
            inEach("role(1, " + n + ")", g -> bit(g.role(1, n)), 0);
            inEach("role(" + n + ", " + n + ")", g -> bit(g.role(n, n)), 0);
        }
        for (int r = 0; r < 8; r++) {
            int each = r;
            inEach("a role includes itself", g -> bit(g.role(each, each)), 0);
        }
        inBusy("role(0, 1) again", g -> bit(g.role(0, 1)), 0);
        inBusy("role(0, 2) by role 1", g -> bit(g.role(0, 2)), 0);
    }

    private static void user() {
        Check.about("Promise 7: -1, refused, if there are 6, roles is not 0 .. 255 or scheme is not 0 or 1.");
        inFull("a seventh", g -> g.user(1, 0, 0), -1);
        inFull("a seventh", g -> g.user(1, 255, 1), -1);
        for (int roles : new int[] {LEAST, -1, 256, 257, GREATEST}) {
            inEach("roles " + roles, g -> g.user(1, roles, 1), -1);
        }
        for (int scheme : new int[] {LEAST, -1, 2, 3, GREATEST}) {
            inEach("scheme " + scheme, g -> g.user(1, 1, scheme), -1);
        }
    }

    private static void service() {
        Check.about("Promise 8: -1, refused, if there are 6, parent or face is no earlier type, or condition no expression.");
        inFull("a seventh", g -> g.service(-1, -1, -1), -1);
        inFull("a seventh", g -> g.service(5, 0, 15), -1);
        for (int n : new int[] {LEAST, -2, 3, 6, GREATEST}) {
            inBusy("parent " + n, g -> g.service(n, 0, 0), -1);
            inBusy("face " + n, g -> g.service(0, n, 0), -1);
        }
        for (int n : new int[] {LEAST, -2, 4, 16, GREATEST}) {
            inBusy("condition " + n, g -> g.service(0, 0, n), -1);
        }
        inNew("itself as parent", g -> g.service(0, -1, -1), -1);
        inNew("itself as interface", g -> g.service(-1, 0, -1), -1);
        inNew("a condition when there is none", g -> g.service(-1, -1, 0), -1);
    }

    private static void declare() {
        Check.about("Promise 9: false, refused, if there is no such type or operation, it declares that already, "
                + "or condition is neither -1 nor an expression.");
        for (int n : new int[] {LEAST, -1, 3, 6, GREATEST}) {
            inBusy("type " + n, g -> bit(g.declare(n, 0, -1)), 0);
        }
        for (int n : new int[] {LEAST, -1, 4, 5, GREATEST}) {
            inBusy("operation " + n, g -> bit(g.declare(2, n, -1)), 0);
        }
        for (int n : new int[] {LEAST, -2, 4, 16, GREATEST}) {
            inBusy("condition " + n, g -> bit(g.declare(2, 0, n)), 0);
        }
        for (int condition = -1; condition < 4; condition++) {
            int each = condition;
            inBusy("declared without a condition of its own", g -> bit(g.declare(0, 0, each)), 0);
            inBusy("declared with one", g -> bit(g.declare(0, 1, each)), 0);
        }
        inNew("no type", g -> bit(g.declare(0, 0, -1)), 0);
    }

    private static void tick() {
        Check.about("Promise 10: false, refused, if n is not so (1 .. 100).");
        for (int n : new int[] {LEAST, -100, -1, 0, 101, 102, GREATEST}) {
            inEach("tick(" + n + ")", g -> bit(g.tick(n)), 0);
        }
    }

    private static void loginOfNobody() {
        Check.about("Promise 11: -1, refused, if there is no such user.");
        for (int user : new int[] {LEAST, -1, 4, 6, GREATEST}) {
            for (int session : new int[] {0, SESSION}) {
                inBusy("login(" + user + ")", g -> g.login(user, 10, session, true), -1);
                inOpen("login(" + user + ")", g -> g.login(user, 10, session, false), -1);
            }
        }
        inFull("login(6)", g -> g.login(6, 10, SESSION, true), -1);
        inNew("login(0)", g -> g.login(0, 10, 0, true), -1);
    }

    private static void loginWhenLocked() {
        Check.about("Promise 11: then -2, refused, if the user is LOCKED.");
        for (int password : new int[] {12, 9}) {
            for (int session : new int[] {0, SESSION, OTHERS_SESSION}) {
                inBusy("password " + password, g -> g.login(LOCKED, password, session, true), -2);
                inOpen("password " + password, g -> g.login(LOCKED, password, session, false), -2);
                inFull("password " + password, g -> g.login(LOCKED, password, session, true), -2);
            }
        }
        Twins.unchanged("one with scheme 0", g -> {
            busy(g);
            g.login(TWICE_WRONG, 9, 0, false);
        }, g -> g.login(TWICE_WRONG, 13, SESSION, true), -2);
    }

    private static void logout() {
        Check.about("Promise 12: false, refused, if there is no such session.");
        for (int id : new int[] {LEAST, -1, 0, 1, DEAD, SESSION + 1, SERIES, SERIES + 1, OTHERS_SERIES, 1000, GREATEST}) {
            inEach("logout(" + id + ")", g -> bit(g.logout(id)), 0);
        }
        Twins.unchanged("one that was ended", g -> {
            busy(g);
            g.login(1, 11, SESSION, false);
        }, g -> bit(g.logout(SESSION)), 0);
        Twins.unchanged("one that rested too long", g -> {
            busy(g);
            g.tick(19);
        }, g -> bit(g.logout(SESSION)), 0);
    }

    private static void openWithoutMethod() {
        Check.about("Promise 13: -1, refused (the buffer stays), if method is not 0 .. 3.");
        for (int method : new int[] {LEAST, -1, 4, 5, 32, GREATEST}) {
            inEach("method " + method, g -> g.open(method, 0, 0, 0, 0), -1);
            inBusy("method " + method + " by a session", g -> g.open(method, SESSION, SESSION + 1, 0, 0), -1);
            inBusy("method " + method + " by a series", g -> g.open(method, 0, 0, SERIES, SERIES + 1), -1);
            inBusy("method " + method + " by a wrong token", g -> g.open(method, 0, 0, SERIES, 0), -1);
            Twins.unchanged("method " + method + " and a bad path", g -> {
                busy(g);
                Check.write(g, "/a/");
                g.type('/');
            }, g -> g.open(method, SESSION, 0, 0, 0), -1);
        }
    }

    private static void openWhenOpen() {
        Check.about("Promise 13: -1, refused (the buffer stays), if a request is open.");
        for (int method = -1; method <= 4; method++) {
            int each = method;
            inOpen("by nobody", g -> g.open(each, 0, 0, 0, 0), -1);
            inOpen("by a session", g -> g.open(each, SESSION, SESSION + 1, 0, 0), -1);
            inOpen("by another session", g -> g.open(each, USED_SESSION, USED_SESSION + 1, 0, 0), -1);
            inOpen("by a series", g -> g.open(each, 0, 0, SERIES, SERIES + 1), -1);
            inOpen("by a wrong token", g -> g.open(each, 0, 0, SERIES, 0), -1);
            Twins.unchanged("with a bad path", g -> {
                open(g);
                Check.write(g, "/..");
            }, g -> g.open(each, SESSION, SESSION + 1, 0, 0), -1);
            Twins.unchanged("with an empty buffer", g -> {
                open(g);
                g.clear();
            }, g -> g.open(each, 0, 0, 0, 0), -1);
        }
    }

    private static void call() {
        Check.about("Promise 14: -1, refused, if there is no such type, operation is not 0 .. 3, or it is not found.");
        for (int n : new int[] {LEAST, -1, 3, 6, GREATEST}) {
            inBusy("type " + n, g -> g.call(n, 0, 0), -1);
            inOpen("type " + n, g -> g.call(n, 0, 0), -1);
        }
        for (int n : new int[] {LEAST, -1, 4, 5, GREATEST}) {
            inBusy("operation " + n, g -> g.call(0, n, 0), -1);
            inOpen("operation " + n, g -> g.call(0, n, 0), -1);
        }
        inBusy("not declared", g -> g.call(0, 2, 0), -1);
        inBusy("not declared in the line", g -> g.call(0, 3, 0), -1);
        inFull("type 6", g -> g.call(6, 0, 0), -1);
        inNew("no type", g -> g.call(0, 0, 0), -1);
    }

    private static void closeWhenNoneIsOpen() {
        Check.about("Promise 15: false if none is open.");
        inNew("close()", g -> bit(g.close()), 0);
        inBusy("close()", g -> bit(g.close()), 0);
        inFull("close()", g -> bit(g.close()), 0);
    }

    private static void whatOnlyAsks() {
        Check.about("Promises 16 to 21: what only asks changes nothing.");
        inOpen("who()", g -> g.who(), 0);
        inBusy("who()", g -> g.who(), -1);
        inBusy("fits", g -> g.fits(0), 1);
        inBusy("fits not", g -> g.fits(1), 0);
        inOpen("fits", g -> g.fits(1), 1);
        inFull("fits", g -> g.fits(2), 1);
        inNew("fits of no rule", g -> g.fits(0), -1);
        Twins.unchanged("fits of a bad path", g -> {
            busy(g);
            Check.write(g, "/a//");
        }, g -> g.fits(0), -2);
        for (int n : FAR) {
            inEach("fits(" + n + ")", g -> g.fits(n), -1);
            inEach("hash(" + n + ")", g -> g.hash(n), 0);
            inEach("count(" + n + ")", g -> g.count(n), -1);
            inBusy("session(0, 0, " + n + ")", g -> g.session(0, 0, n), -1);
            inBusy("session(0, " + n + ", 0)", g -> g.session(0, n, 0), -1);
            inBusy("session(" + n + ", 0, 0)", g -> g.session(n, 0, 0), -1);
            inBusy("series(0, 0, " + n + ")", g -> g.series(0, 0, n), -1);
            inBusy("series(0, " + n + ", 0)", g -> g.series(0, n, 0), -1);
            inBusy("series(" + n + ", 0, 0)", g -> g.series(n, 0, 0), -1);
        }
        inBusy("session", g -> g.session(0, 0, 0), SESSION);
        inBusy("token", g -> g.session(0, 0, 1), SESSION + 1);
        inBusy("remembered", g -> g.session(1, 1, 2), 1);
        inBusy("series", g -> g.series(0, 0, 0), SERIES);
        inBusy("token of the series", g -> g.series(0, 0, 1), SERIES + 1);
        inBusy("hash", g -> g.hash(0), Check.hash(10, 1, 1));
        inBusy("count", g -> g.count(6), 26);
    }
}
