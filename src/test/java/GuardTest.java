import java.util.ArrayList;
import java.util.List;

/** The terms: lines of types, where an operation is found, and which condition guards it. */
public final class GuardTest {
    private static final int NONE = -1;
    private static final int FACE = 0;
    private static final int UPPER_FACE = 1;
    private static final int UPPER = 2;
    private static final int LOWER = 3;

    public static void main(String[] args) {
        eachMixOfConditions();
        foundInTheFirstThatDeclares();
        lineOfSix();
        conditionsOfOneThatOnlyInherits();
        interfacesOfInterfaces();
        operationsByThemselves();
        guardThatIsNotTrue();
        noneIsMinusOne();
        Check.end();
    }

    /** Expression n is BELOW n: by its argument a call tells which condition guards. */
    private static RequestGate withBelow() {
        RequestGate gate = new RequestGate();
        for (int i = 0; i < 16; i++) {
            gate.expression(8, i, 0);
        }
        return gate;
    }

    private static void guard(String text, RequestGate gate, int type, int operation, int condition) {
        if (condition == NONE) {
            Check.due(text + ", no guard", gate.call(type, operation, Integer.MAX_VALUE), 1);
        } else {
            Check.due(text + ", below " + condition, gate.call(type, operation, condition - 1), 1);
            Check.due(text + ", not below " + condition, gate.call(type, operation, condition), 0);
        }
    }

    private static int bit(int set, int i, int value) {
        return (set >> i) % 2 == 1 ? value : NONE;
    }

    /** A type with its parent, both with an interface: which of the four declare, and which of the eight conditions there are. */
    private static void eachMixOfConditions() {
        Check.about("Its GUARD is the first of these that there is: the condition with which that type declares it; the condition of that type; "
                + "then for each type of the line, whose interface declares the operation, "
                + "the condition with which the interface declares it, and the condition of the interface.");
        for (int declaring = 0; declaring < 16; declaring++) {
            for (int there = 0; there < 256; there++) {
                RequestGate gate = withBelow();
                int[] parents = {NONE, NONE, NONE, UPPER};
                int[] faces = {NONE, NONE, UPPER_FACE, FACE};
                for (int type = FACE; type <= LOWER; type++) {
                    gate.service(parents[type], faces[type], bit(there, type, type + 1));
                    if ((declaring >> type) % 2 == 1) {
                        gate.declare(type, 0, bit(there, 4 + type, type + 5));
                    }
                }
                String text = "declared by " + declaring + ", conditions " + there;
                check(text, gate, LOWER, new int[] {LOWER, UPPER}, new int[] {FACE, UPPER_FACE}, declaring, there);
                check(text, gate, UPPER, new int[] {UPPER}, new int[] {UPPER_FACE}, declaring, there);
            }
        }
    }

    private static void check(String text, RequestGate gate, int type, int[] line, int[] faces, int declaring, int there) {
        List<Integer> guards = new ArrayList<>();
        for (int i = 0; i < line.length && guards.isEmpty(); i++) {
            note(guards, line[i], declaring, there);
        }
        if (guards.isEmpty()) {
            Check.due(text + ", not found", gate.call(type, 0, 0), -1);
            return;
        }
        for (int face : faces) {
            note(guards, face, declaring, there);
        }
        guards.removeIf(g -> g == NONE);
        guard(text, gate, type, 0, guards.isEmpty() ? NONE : guards.get(0));
    }

    private static void note(List<Integer> guards, int type, int declaring, int there) {
        if ((declaring >> type) % 2 == 1) {
            guards.add(bit(there, 4 + type, type + 5));
            guards.add(bit(there, type, type + 1));
        }
    }

    private static void foundInTheFirstThatDeclares() {
        Check.about("An operation of a type is FOUND in the first type of the line that declares it.");
        for (int declaring = 1; declaring < 64; declaring++) {
            RequestGate gate = withBelow();
            for (int type = 0; type < 6; type++) {
                gate.service(type - 1, -1, -1);
                if ((declaring >> type) % 2 == 1) {
                    gate.declare(type, 1, type + 1);
                }
            }
            int nearest = NONE;
            for (int type = 0; type < 6; type++) {
                nearest = (declaring >> type) % 2 == 1 ? type : nearest;
                if (nearest == NONE) {
                    Check.due("type " + type + " of " + declaring, gate.call(type, 1, 0), -1);
                } else {
                    guard("type " + type + " of " + declaring, gate, type, 1, nearest + 1);
                }
            }
        }
    }

    private static void lineOfSix() {
        Check.about("The LINE of a type is that type, its parent, the parent's parent, and so on. TYPES (at most 6)");
        RequestGate gate = withBelow();
        for (int type = 0; type < 6; type++) {
            gate.service(type - 1, -1, type + 1);
        }
        Check.due("not found in the whole line", gate.call(5, 2, 0), -1);
        gate.declare(0, 2, -1);
        for (int type = 0; type < 6; type++) {
            guard("from type " + type + " up to the first", gate, type, 2, 1);
        }
        RequestGate other = withBelow();
        other.service(-1, -1, 9);
        other.declare(0, 2, -1);
        other.service(-1, 0, -1);
        other.declare(1, 2, -1);
        for (int type = 2; type < 6; type++) {
            other.service(type - 1, -1, type);
        }
        guard("the interface at the end of the line", other, 5, 2, 9);
    }

    private static void conditionsOfOneThatOnlyInherits() {
        Check.about("the condition of that type (which declares it; not of one below or above)");
        RequestGate gate = withBelow();
        gate.service(-1, -1, 1);
        gate.service(0, -1, -1);
        gate.service(1, -1, 3);
        gate.declare(1, 0, -1);
        guard("neither the one above nor the one below", gate, 2, 0, NONE);
        guard("nor the one above", gate, 1, 0, NONE);
        gate.declare(0, 0, 7);
        guard("nor what the one above declares", gate, 2, 0, NONE);
    }

    private static void interfacesOfInterfaces() {
        Check.about("whose interface declares the operation (the interface itself)");
        RequestGate gate = withBelow();
        gate.service(-1, -1, 1);
        gate.declare(0, 0, 2);
        gate.service(0, -1, 3);
        gate.service(-1, 0, 4);
        gate.service(-1, 1, -1);
        gate.declare(3, 0, -1);
        gate.service(-1, 2, -1);
        gate.declare(4, 0, -1);
        guard("the interface's parent declares it", gate, 3, 0, NONE);
        guard("the interface's interface declares it", gate, 4, 0, NONE);
        gate.service(-1, 0, -1);
        Check.due("an interface that declares it does not make it found", gate.call(5, 0, 0), -1);
        gate.declare(5, 0, -1);
        guard("the interface declares it", gate, 5, 0, 2);
    }

    private static void operationsByThemselves() {
        Check.about("DECLARE some of the OPERATIONS 0 .. 3, each with a condition or none");
        RequestGate gate = withBelow();
        gate.service(-1, -1, 9);
        for (int operation = 0; operation < 4; operation++) {
            gate.declare(0, operation, operation == 2 ? -1 : operation + 1);
        }
        int[] due = {1, 2, 9, 4};
        for (int operation = 0; operation < 4; operation++) {
            guard("operation " + operation, gate, 0, operation, due[operation]);
        }
    }

    private static void guardThatIsNotTrue() {
        Check.about("Its BODY runs .. if there is no guard or that is TRUE: the first one alone, whatever the others are");
        RequestGate gate = new RequestGate();
        gate.expression(0, 0, 0);
        gate.expression(1, 0, 0);
        gate.expression(9, 0, 0);
        gate.service(-1, -1, -1);
        for (int operation = 0; operation < 3; operation++) {
            gate.declare(0, operation, operation);
        }
        gate.declare(0, 3, -1);
        Check.due("TRUE", gate.call(0, 0, 0), 1);
        Check.due("FALSE", gate.call(0, 1, 0), 0);
        Check.due("ERROR", gate.call(0, 2, 0), 0);
        Check.due("no guard", gate.call(0, 3, 0), 1);
        gate.service(-1, 0, 1);
        gate.declare(1, 0, -1);
        Check.due("FALSE at the type, TRUE at the interface", gate.call(1, 0, 0), 0);
        gate.service(-1, 0, 0);
        gate.declare(2, 1, -1);
        Check.due("TRUE at the type, FALSE at the interface", gate.call(2, 1, 0), 1);
    }

    private static void noneIsMinusOne() {
        Check.about("Conditions and expressions are given by number, -1 for none.");
        RequestGate gate = new RequestGate();
        gate.expression(1, 0, 0);
        Check.due("no condition", gate.service(-1, -1, -1), 0);
        Check.due("condition 0", gate.service(-1, -1, 0), 1);
        gate.declare(0, 0, -1);
        gate.declare(0, 1, 0);
        gate.declare(1, 0, -1);
        Check.due("none and none", gate.call(0, 0, 0), 1);
        Check.due("condition 0 of the operation", gate.call(0, 1, 0), 0);
        Check.due("condition 0 of the type", gate.call(1, 0, 0), 0);
        Check.due("a rule without one", Check.rule(gate, "/", -1, 1), -1);
        Check.due("NOT of none", gate.expression(4, -1, 0), -1);
    }
}
