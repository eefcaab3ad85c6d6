/** Promises 2 (type) and 3 (clear). */
public final class BufferTest {
    public static void main(String[] args) {
        typeTakesTheCodes();
        typeRefusesWhatIsNoCode();
        typeTakesForty();
        clearEmpties();
        Check.end();
    }

    private static void typeTakesTheCodes() {
        RequestGate gate = new RequestGate();
        gate.expression(0, 0, 0);
        for (int c = 33; c <= 126; c++) {
            gate.clear();
            Check.due("type(" + c + ")", gate.type(c), true);
        }
        gate.clear();
        Check.due("rule", Check.rule(gate, "/!~", 0, 15), 0);
        Check.write(gate, "/!~");
        Check.due("what was typed is there", gate.fits(0), 1);
    }

    private static void typeRefusesWhatIsNoCode() {
        RequestGate gate = new RequestGate();
        gate.expression(0, 0, 0);
        Check.rule(gate, "/a", 0, 15);
        Check.write(gate, "/a");
        int[] wrong = {32, 127, 0, -1, 10, 128, 256 + 47, 65536 + 97, Integer.MIN_VALUE, Integer.MAX_VALUE};
        for (int c : wrong) {
            Check.due("type(" + c + ")", gate.type(c), false);
            Check.due("a refused character changes nothing", gate.fits(0), 1);
        }
    }

    private static void typeTakesForty() {
        RequestGate gate = new RequestGate();
        gate.expression(0, 0, 0);
        Check.rule(gate, "/" + "?".repeat(39), 0, 15);
        gate.clear();
        gate.type('/');
        for (int i = 1; i < 40; i++) {
            Check.due("character " + i, gate.type('a'), true);
        }
        Check.due("character 41", gate.type('a'), false);
        Check.due("forty are there", gate.fits(0), 1);
        Check.due("forty open", gate.open(0, 0, 0, 0, 0), 200);
        Check.due("room again after open", gate.type('a'), true);
    }

    private static void clearEmpties() {
        RequestGate gate = new RequestGate();
        gate.expression(0, 0, 0);
        Check.rule(gate, "/", 0, 15);
        Check.write(gate, "/abc");
        gate.clear();
        Check.due("empty is no path", gate.fits(0), -2);
        gate.clear();
        gate.type('/');
        Check.due("only what came after clear", gate.fits(0), 1);
        gate.clear();
        for (int i = 0; i < 40; i++) {
            Check.due("room for forty after clear", gate.type('a'), true);
        }
    }
}
