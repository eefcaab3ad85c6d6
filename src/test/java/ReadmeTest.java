import java.io.IOException;
import java.nio.file.Files;
import java.nio.file.Path;
import java.util.ArrayList;
import java.util.List;

/** README.md: its example stands here line by line, and answers what it says there. */
public final class ReadmeTest {
    public static void main(String[] args) throws IOException {
        answersAreThoseOfTheReadme();
        everyLineOfTheReadmeStandsHere();
        Check.end();
    }

    static void write(RequestGate gate, String text) {
        gate.clear();
        for (int i = 0; i < text.length(); i++) {
            gate.type(text.charAt(i));
        }
    }

    private static void answersAreThoseOfTheReadme() {
        RequestGate gate = new RequestGate();

        // Who may come in: the first rule with the method, whose pattern fits the path, decides.
        int yes = gate.expression(0, 0, 0);                       // 0: everybody
        int full = gate.expression(2, 0, 0);                      // 1: who has logged in, not who is only remembered
        write(gate, "/open/**");
        int reading = gate.rule(yes, 3);                          // 0: GET and HEAD
        write(gate, "/**");
        int theRest = gate.rule(full, 15);                        // 1: all four methods

        // A user with password 77 and role 0, which includes role 1.
        boolean added = gate.role(0, 1);                          // true
        int ann = gate.user(77, 1, 1);                            // 0

        // A service, whose operation 2 runs for users that have role 1.
        int keeper = gate.expression(3, 1, 0);                    // 2
        int shelf = gate.service(-1, -1, -1);                     // 0
        boolean declared = gate.declare(shelf, 2, keeper);        // true

        // Ann logs in and wants to be remembered.
        int session = gate.login(ann, 77, 0, true);               // 2: the ID of her session
        int secret = gate.session(ann, 0, 1);                     // 3: its token
        int series = gate.series(ann, 0, 0);                      // 4: the ID of her series
        int token = gate.series(ann, 0, 1);                       // 5: its token

        // POST, which needs the session's token; then the service is called and the request ends.
        write(gate, "/shop;v=1/./%61");
        int posted = gate.open(2, session, secret, 0, 0);         // 201: open by rule 1
        int asking = gate.who();                                  // 0: Ann
        int ran = gate.call(shelf, 2, 0);                         // 1: the body ran
        boolean closed = gate.close();                            // true

        // The session dies of rest; the series says who asks, but that is not enough for rule 1.
        boolean rested = gate.tick(21);                           // true
        write(gate, "/shop");
        int refused = gate.open(0, session, 0, series, token);    // 403
        int newSession = gate.session(ann, 0, 0);                 // 7: made for her who is remembered
        write(gate, "/open/door");
        int read = gate.open(0, newSession, 0, 0, 0);             // 200: open by rule 0
        int remembered = gate.who();                              // 8: Ann, remembered

        dueInOrder("the rules and the service", new int[] {yes, full, reading, theRest, keeper, shelf},
                new int[] {0, 1, 0, 1, 2, 0});
        dueInOrder("the user", new int[] {ann, session, secret, series, token}, new int[] {0, 2, 3, 4, 5});
        dueInOrder("the requests", new int[] {posted, asking, ran, refused, newSession, read, remembered},
                new int[] {201, 0, 1, 403, 7, 200, 8});
        Check.due("role, declare, close and tick", added && declared && closed && rested, true);
    }

    private static void dueInOrder(String what, int[] got, int[] want) {
        for (int i = 0; i < want.length; i++) {
            Check.due("README.md, " + what + ", answer " + i, got[i], want[i]);
        }
    }

    private static void everyLineOfTheReadmeStandsHere() throws IOException {
        List<String> here = Files.readAllLines(Path.of("src/test/java/ReadmeTest.java"));
        List<String> there = codeIn(Files.readAllLines(Path.of("README.md")));
        Check.due("README.md holds code", !there.isEmpty(), true);
        int at = 0;
        for (String line : there) {
            while (at < here.size() && !here.get(at).trim().equals(line)) {
                at++;
            }
            Check.due("a line of README.md stands here, in its order: " + line, at < here.size(), true);
            at++;
        }
    }

    private static List<String> codeIn(List<String> lines) {
        List<String> code = new ArrayList<>();
        boolean inside = false;
        for (String line : lines) {
            if (line.startsWith("```")) {
                inside = line.equals("```java");
            } else if (inside && !line.isBlank()) {
                code.add(line.trim());
            }
        }
        return code;
    }
}
