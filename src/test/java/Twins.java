import java.util.ArrayList;
import java.util.List;

/**
 * Tells whether a call changes nothing: two gates are made by the same calls, only one of them gets the call, and then
 * both are asked the same. Most ways of asking change a gate themselves, and a question may hide what another one would
 * have shown, so each way begins with two new gates.
 */
final class Twins {
    interface Calls {
        void on(RequestGate gate);
    }

    interface Question {
        long of(RequestGate gate);
    }

    private static final int WAYS = 13;
    /** With what the tests do before, a gate stays within its 512 calls. */
    private static final int MOST_QUESTIONS = 300;

    private final RequestGate gate;
    private final List<Long> answers = new ArrayList<>();

    private Twins(RequestGate gate) {
        this.gate = gate;
    }

    /** After some calls this one answers what is due and changes nothing. */
    static void unchanged(String text, Calls before, Question call, long due) {
        for (int way = 0; way < WAYS; way++) {
            RequestGate called = new RequestGate();
            RequestGate spared = new RequestGate();
            before.on(called);
            before.on(spared);
            Check.due(text, call.of(called), due);
            alike(text + " changes nothing, way " + way, answersOf(called, way), answersOf(spared, way));
        }
    }

    /** Whether some way of asking tells the two apart. */
    static boolean tellsApart(Calls first, Calls second) {
        for (int way = 0; way < WAYS; way++) {
            RequestGate one = new RequestGate();
            RequestGate other = new RequestGate();
            first.on(one);
            second.on(other);
            if (!answersOf(one, way).equals(answersOf(other, way))) {
                return true;
            }
        }
        return false;
    }

    private static void alike(String text, List<Long> got, List<Long> want) {
        int at = 0;
        while (at < want.size() && got.get(at).equals(want.get(at))) {
            at++;
        }
        if (at < want.size()) {
            Check.due(text + ", question " + at, got.get(at), want.get(at));
        }
    }

    private static List<Long> answersOf(RequestGate gate, int way) {
        Twins twin = new Twins(gate);
        switch (way) {
            case 0: twin.look(); break;
            case 1: twin.fillBuffer(); break;
            case 2: twin.makeMore(); break;
            case 3: twin.addRoles(); break;
            case 4: twin.logInWrongly(); break;
            case 5: twin.logInRightly(); break;
            case 6: twin.letRest(); break;
            case 7: twin.letGrowOld(); break;
            case 8: twin.openAll(); break;
            case 9: twin.callAll(); break;
            case 10: twin.askBySeries(); break;
            case 11: twin.lookLater(); break;
            default: twin.logInAfterLocks(); break;
        }
        Check.due("questions of way " + way + ", " + twin.answers.size(), twin.answers.size() <= MOST_QUESTIONS, true);
        return twin.answers;
    }

    private void note(long answer) {
        answers.add(answer);
    }

    private void note(boolean answer) {
        note(answer ? 1 : 0);
    }

    private void write(String text) {
        gate.clear();
        for (char c : text.toCharArray()) {
            note(gate.type(c));
        }
    }

    private void look() {
        note(gate.who());
        for (int kind = 0; kind < 7; kind++) {
            note(gate.count(kind));
        }
        for (int n = 0; n < 8; n++) {
            note(gate.hash(n));
            note(gate.fits(n));
        }
        for (int user = 0; user < 6; user++) {
            for (int i = 0; i < 2; i++) {
                for (int what = 0; what < 3; what++) {
                    note(gate.session(user, i, what));
                    note(gate.series(user, i, what));
                }
            }
        }
        note(gate.close());
    }

    private void fillBuffer() {
        for (int i = 0; i < 41; i++) {
            note(gate.type('b'));
        }
        for (int n = 0; n < 8; n++) {
            note(gate.fits(n));
        }
        note(gate.close());
        note(gate.open(0, 0, 0, 0, 0));
    }

    private void makeMore() {
        note(gate.rule(0, 15));
        for (int i = 0; i < 17; i++) {
            note(gate.expression(0, 0, 0));
        }
        for (int i = 0; i < 7; i++) {
            note(gate.user(50, 1, 1));
            note(gate.service(-1, -1, -1));
            note(gate.hash(i));
        }
        for (int i = 0; i < 9; i++) {
            write("/z");
            note(gate.rule(0, 15));
        }
    }

    private void addRoles() {
        for (int r = 0; r < 8; r++) {
            for (int s = 0; s < 8; s++) {
                note(gate.role(r, s));
            }
        }
    }

    private void logInWrongly() {
        for (int user = 0; user < 6; user++) {
            for (int i = 0; i < 4; i++) {
                note(gate.login(user, 9, 0, true));
            }
        }
        for (int later = 0; later < 11; later++) {
            note(gate.login(later % 2, 10 + later % 2, 0, false));
            note(gate.login(2 + later % 4, 12 + later % 4, 0, false));
            note(gate.tick(1));
        }
        note(gate.count(4));
    }

    private void logInRightly() {
        for (int later = 0; later < 12; later++) {
            for (int user = 0; user < 6; user++) {
                note(gate.login(user, 10 + user, 0, later % 2 == 0));
            }
            note(gate.tick(1));
        }
        look();
    }

    /** No session is asked for before, as that might be taken for a use. */
    private void lookLater() {
        note(gate.tick(18));
        look();
    }

    /** None of them tries before its lock has ended. */
    private void logInAfterLocks() {
        note(gate.tick(10));
        for (int user = 0; user < 6; user++) {
            note(gate.login(user, 9, 0, false));
            note(gate.login(user, 9, 0, false));
            note(gate.login(user, 10 + user, 0, false));
        }
    }

    private void letRest() {
        for (int i = 0; i < 22; i++) {
            for (int user = 0; user < 3; user++) {
                note(gate.session(user, 0, 0));
                note(gate.session(user, 1, 0));
            }
            note(gate.tick(1));
        }
    }

    /** Each session is used again and again, so that it dies of age. */
    private void letGrowOld() {
        note(gate.close());
        int[] ids = new int[4];
        for (int i = 0; i < 4; i++) {
            ids[i] = gate.session(i / 2, i % 2, 0);
            note(ids[i]);
        }
        for (int i = 0; i < 13; i++) {
            for (int id : ids) {
                write("/");
                note(gate.open(0, id, 0, 0, 0));
                note(gate.who());
                note(gate.close());
            }
            note(gate.tick(5));
        }
    }

    private void openAll() {
        note(gate.open(0, 0, 0, 0, 0));
        note(gate.close());
        int session = gate.session(0, 0, 0);
        int secret = gate.session(0, 0, 1);
        for (String path : new String[] {"/a", "/b", "/b/c", "/c"}) {
            for (int method = 0; method < 4; method++) {
                for (int asking = 0; asking < 2; asking++) {
                    write(path);
                    note(gate.open(method, asking * session, secret, 0, 0));
                    note(gate.who());
                    note(gate.close());
                }
            }
        }
    }

    private void callAll() {
        int[] arguments = {-1, 0, 1, 4};
        for (int n = 0; n < 24; n++) {
            for (int argument : arguments) {
                note(gate.call(n / 4, n % 4, argument));
            }
        }
        for (int n = 0; n < 24; n++) {
            note(gate.declare(n / 4, n % 4, -1));
            note(gate.call(n / 4, n % 4, 0));
        }
    }

    private void askBySeries() {
        note(gate.close());
        for (int user = 0; user < 3; user++) {
            for (int i = 0; i < 4; i++) {
                int series = gate.series(user, i % 2, 0);
                int token = i < 3 ? gate.series(user, i % 2, 1) : 0;
                write("/");
                note(gate.open(0, 0, 0, series, token));
                note(gate.who());
                note(gate.session(user, 1, 1));
                note(gate.close());
            }
        }
        look();
    }
}
