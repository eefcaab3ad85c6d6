/** All promises: long runs of mixed calls, each answered by the model too. The same runs each time. */
public final class ModelTest {
    private static final int RUNS = 4000;
    private static final int CALLS = 512;
    private static final String[] PATTERN_PARTS = {"/a", "/b", "/*", "/*", "/**", "/**", "/**", "/?", "/a*", "/*b", "/ab", "/a?b"};
    private static final String[] PATH_PARTS = {"/a", "/b", "/ab", "/aab", "/a/..", "/.", "/a;x", "/%61", "/%2e"};
    private static final String[] ODD_PARTS = {"/", "a", "\\", "%41", "%2", "/;", "/..", "/***", "b/", "%2f", ";", "*"};
    private static final int[] EDGES = {-2, -1, 0, 1, 2, 3, 4, 5, 6, 7, 8, 9, 15, 16, 20, 21, 100, 101, 255, 256,
        Integer.MIN_VALUE, Integer.MAX_VALUE};

    private final RequestGate gate = new RequestGate();
    private final Model model = new Model();
    private int expressions;
    private int users;
    private int types;
    private final int run;
    private long seed;
    private int calls;

    private ModelTest(int run) {
        this.run = run;
        this.seed = run * 7919L + 1;
    }

    public static void main(String[] args) {
        int[] seen = new int[5];
        for (int run = 0; run < RUNS; run++) {
            ModelTest test = new ModelTest(run);
            test.begin();
            while (test.calls < CALLS) {
                test.step();
            }
            for (int kind = 0; kind < seen.length; kind++) {
                seen[kind] += test.model.count(kind);
            }
        }
        for (int kind = 0; kind < seen.length; kind++) {
            Check.due("the runs come to count(" + kind + ") often enough, " + seen[kind], seen[kind] > RUNS / 10, true);
        }
        Check.end();
    }

    private int below(int n) {
        seed = seed * 6364136223846793005L + 1442695040888963407L;
        return (int) ((seed >>> 33) % n);
    }

    /** Mostly one of the first n numbers, at times one from the edges. */
    private int pick(int n) {
        return n == 0 || below(20) == 0 ? EDGES[below(EDGES.length)] : below(n);
    }

    private int orNone(int n) {
        return below(2) == 0 ? -1 : pick(n);
    }

    private void same(String call, long got, long want) {
        calls++;
        Check.due("run " + run + ", call " + calls + ": " + call, got, want);
    }

    private void same(String call, boolean got, boolean want) {
        same(call, got ? 1 : 0, want ? 1 : 0);
    }

    private void write(String[] parts, int most) {
        StringBuilder text = new StringBuilder();
        for (int i = below(most) + 1; i > 0; i--) {
            text.append(below(25) == 0 ? ODD_PARTS[below(ODD_PARTS.length)] : parts[below(parts.length)]);
        }
        if (below(12) > 0) {
            gate.clear();
            model.clear();
            calls++;
        }
        for (char c : text.toString().toCharArray()) {
            same("type(" + (int) c + ")", gate.type(c), model.type(c));
        }
    }

    private void begin() {
        for (int i = below(4) + 2; i > 0; i--) {
            makeUser();
            makeExpression();
            makeRule();
            makeService();
            declare();
            declare();
        }
    }

    private void step() {
        switch (below(20)) {
            case 0: makeExpression(); break;
            case 1: makeRule(); break;
            case 2: makeService(); break;
            case 3: case 4: declare(); break;
            case 5: makeUser(); break;
            case 6: role(); break;
            case 7: case 8: tick(); break;
            case 9: case 10: case 11: login(); break;
            case 12: case 13: case 14: case 15: open(); break;
            case 16: case 17: callBody(); break;
            case 18: logoutOrClose(); break;
            default: fits(); break;
        }
        look();
    }

    private void makeExpression() {
        int op = pick(10);
        boolean joint = op >= 4 && op <= 6;
        int a = op == 9 ? below(7) - 3 : pick(joint ? expressions : 8);
        int b = pick(joint ? expressions : 8);
        int want = model.expression(op, a, b);
        same("expression(" + op + ", " + a + ", " + b + ")", gate.expression(op, a, b), want);
        expressions = Math.max(expressions, want + 1);
    }

    private void makeRule() {
        write(PATTERN_PARTS, 3);
        int e = pick(expressions);
        int methods = below(2) == 0 ? 15 : pick(16);
        same("rule(" + e + ", " + methods + ")", gate.rule(e, methods), model.rule(e, methods));
    }

    private void makeUser() {
        int password = below(2);
        int roles = pick(256);
        int scheme = pick(2);
        int want = model.user(password, roles, scheme);
        same("user(" + password + ", " + roles + ", " + scheme + ")", gate.user(password, roles, scheme), want);
        users = Math.max(users, want + 1);
    }

    private void makeService() {
        int parent = orNone(types);
        int face = orNone(types);
        int condition = orNone(expressions);
        int want = model.service(parent, face, condition);
        same("service(" + parent + ", " + face + ", " + condition + ")", gate.service(parent, face, condition), want);
        types = Math.max(types, want + 1);
    }

    private void declare() {
        int type = pick(types);
        int operation = pick(4);
        int condition = orNone(expressions);
        same("declare(" + type + ", " + operation + ", " + condition + ")",
                gate.declare(type, operation, condition), model.declare(type, operation, condition));
    }

    private void role() {
        int r = pick(8);
        int s = pick(8);
        same("role(" + r + ", " + s + ")", gate.role(r, s), model.role(r, s));
    }

    private void tick() {
        int n = below(4) == 0 ? pick(23) : below(5);
        same("tick(" + n + ")", gate.tick(n), model.tick(n));
    }

    /** The ID of a session that is there, or another number. */
    private int anySession() {
        return below(5) == 0 ? below(model.count(5) + 2) : model.session(below(3), below(2), 0);
    }

    private void login() {
        int user = pick(Math.min(users, 3));
        int password = below(2);
        int session = below(2) == 0 ? 0 : anySession();
        boolean remember = below(2) == 0;
        same("login(" + user + ", " + password + ", " + session + ", " + remember + ")",
                gate.login(user, password, session, remember), model.login(user, password, session, remember));
    }

    private void open() {
        if (below(8) > 0) {
            same("close()", gate.close(), model.close());
        }
        write(PATH_PARTS, 4);
        int method = below(2) == 0 ? 0 : pick(4);
        int owner = below(3);
        int place = below(3) / 2;
        int session = below(3) == 0 ? 0 : model.session(owner, place, 0);
        int secret = below(4) == 0 ? below(20) : model.session(owner, place, 1);
        int series = below(3) == 0 ? 0 : model.series(owner, place, 0);
        int token = below(4) == 0 ? below(20) : model.series(owner, place, 1);
        same("open(" + method + ", " + session + ", " + secret + ", " + series + ", " + token + ")",
                gate.open(method, session, secret, series, token), model.open(method, session, secret, series, token));
    }

    private void callBody() {
        int type = pick(types);
        int operation = pick(4);
        int argument = pick(6);
        same("call(" + type + ", " + operation + ", " + argument + ")",
                gate.call(type, operation, argument), model.call(type, operation, argument));
    }

    private void logoutOrClose() {
        if (below(2) == 0) {
            same("close()", gate.close(), model.close());
        } else {
            int session = anySession();
            same("logout(" + session + ")", gate.logout(session), model.logout(session));
        }
    }

    private void fits() {
        write(PATH_PARTS, 5);
        for (int rule = -1; rule <= 3; rule++) {
            same("fits(" + rule + ")", gate.fits(rule), model.fits(rule));
        }
    }

    private void look() {
        int user = pick(3);
        int i = pick(2);
        int what = pick(3);
        int kind = pick(7);
        same("who()", gate.who(), model.who());
        same("session(" + user + ", " + i + ", " + what + ")", gate.session(user, i, what), model.session(user, i, what));
        same("series(" + user + ", " + i + ", " + what + ")", gate.series(user, i, what), model.series(user, i, what));
        if (below(3) == 0) {
            same("hash(" + user + ")", gate.hash(user), model.hash(user));
            same("count(" + kind + ")", gate.count(kind), model.count(kind));
        }
    }
}
