import java.lang.reflect.Constructor;
import java.lang.reflect.Field;
import java.lang.reflect.Method;
import java.lang.reflect.Modifier;
import java.util.Arrays;
import java.util.Set;
import java.util.TreeSet;

/** The public face, and promise 1: a new object. */
public final class FaceTest {
    private static final String[] FACE = {
        "boolean type(int)", "void clear()", "int expression(int,int,int)", "int rule(int,int)",
        "boolean role(int,int)", "int user(int,int,int)", "int service(int,int,int)",
        "boolean declare(int,int,int)", "boolean tick(int)", "int login(int,int,int,boolean)",
        "boolean logout(int)", "int open(int,int,int,int,int)", "int call(int,int,int)",
        "boolean close()", "int who()", "int fits(int)", "int session(int,int,int)",
        "int series(int,int,int)", "int hash(int)", "int count(int)",
    };

    public static void main(String[] args) {
        membersAreTheDocuments();
        newObjectHoldsNothing();
        Check.end();
    }

    private static void membersAreTheDocuments() {
        Class<?> face = RequestGate.class;
        Check.due("the class is public and final",
                Modifier.isPublic(face.getModifiers()) && Modifier.isFinal(face.getModifiers()), true);
        Set<String> seen = new TreeSet<>();
        Set<String> publicNames = new TreeSet<>();
        for (Method method : face.getDeclaredMethods()) {
            if (!Modifier.isPrivate(method.getModifiers())) {
                seen.add(Modifier.toString(method.getModifiers()).replace("public", "").trim() + signature(method));
                publicNames.add(method.getName());
            }
        }
        Check.due("the methods are those of the document: " + seen,
                seen.equals(new TreeSet<>(Arrays.asList(FACE))), true);
        for (Method method : face.getDeclaredMethods()) {
            if (Modifier.isPrivate(method.getModifiers())) {
                Check.due("private method " + method.getName() + " bears a public name",
                        publicNames.contains(method.getName()), false);
            }
        }
        Constructor<?>[] constructors = face.getDeclaredConstructors();
        Check.due("constructors", constructors.length, 1);
        Check.due("parameters of the constructor", constructors[0].getParameterCount(), 0);
        for (Field field : face.getDeclaredFields()) {
            Check.due("field " + field.getName() + " is private", Modifier.isPrivate(field.getModifiers()), true);
        }
        for (Class<?> inside : face.getDeclaredClasses()) {
            Check.due("class " + inside.getName() + " is static", Modifier.isStatic(inside.getModifiers()), true);
        }
    }

    private static String signature(Method method) {
        StringBuilder text = new StringBuilder(method.getReturnType().getName());
        text.append(' ').append(method.getName()).append('(');
        for (Class<?> parameter : method.getParameterTypes()) {
            text.append(text.charAt(text.length() - 1) == '(' ? "" : ",").append(parameter.getName());
        }
        return text.append(')').toString();
    }

    private static void newObjectHoldsNothing() {
        RequestGate gate = new RequestGate();
        Check.due("close() when new", gate.close(), false);
        Check.due("who() when new", gate.who(), -1);
        for (int kind = 0; kind <= 6; kind++) {
            Check.due("count(" + kind + ") when new", gate.count(kind), 0);
        }
        for (int n = -1; n <= 6; n++) {
            Check.due("hash when new", gate.hash(n), 0);
            Check.due("session when new", gate.session(n, 0, 0), -1);
            Check.due("series when new", gate.series(n, 0, 0), -1);
            Check.due("login when new", gate.login(n, 0, 0, true), -1);
            Check.due("logout when new", gate.logout(n), false);
            Check.due("fits when new", gate.fits(n), -1);
            Check.due("call when new", gate.call(n, 0, 0), -1);
            Check.due("declare when new", gate.declare(n, 0, -1), false);
            Check.due("rule when new", gate.rule(n, 1), -1);
        }
        Check.due("the buffer is empty when new", gate.open(0, 0, 0, 0, 0), 400);
        Check.due("no rule when new", Check.get(gate, "/", 0), 403);
        Check.due("first expression", gate.expression(0, 0, 0), 0);
        Check.due("first rule", Check.rule(gate, "/", 0, 1), 0);
        Check.due("first user", gate.user(0, 0, 0), 0);
        Check.due("first type", gate.service(-1, -1, -1), 0);
        Check.due("first number drawn", gate.count(5), 1);
    }
}
