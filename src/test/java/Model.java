import java.util.ArrayList;
import java.util.Arrays;
import java.util.List;
import java.util.regex.Pattern;

/** The document told a second time, in other ways than the program's (texts, regular expressions, recursion, nothing ever removed). */
final class Model {
    private static final class Visit {
        int user;
        int id;
        int token;
        boolean remembered;
        boolean ended;
        int made;
        int used;
    }

    private String buffer = "";
    private final List<int[]> expressions = new ArrayList<>();
    private final List<String> patterns = new ArrayList<>();
    private final List<int[]> rules = new ArrayList<>();
    private final boolean[][] added = new boolean[8][8];
    private final List<int[]> users = new ArrayList<>();
    private final List<int[]> types = new ArrayList<>();
    private final List<Integer[]> declared = new ArrayList<>();
    private final List<Visit> sessions = new ArrayList<>();
    private final List<Visit> series = new ArrayList<>();
    private final int[] counts = new int[7];
    private boolean open;
    private int subject = -1;
    private boolean remembered;

    // Of a user: password, roles, scheme, salt, wrong tries in a row, time of the lock or a time long ago.
    private static final int SCHEME = 2;
    private static final int SALT = 3;
    private static final int ROW = 4;
    private static final int LOCK = 5;

    boolean type(int c) {
        if (c < 33 || c > 126 || buffer.length() == 40) {
            return false;
        }
        buffer += (char) c;
        return true;
    }

    void clear() {
        buffer = "";
    }

    int expression(int op, int a, int b) {
        int n = expressions.size();
        boolean noX = op >= 4 && op <= 6 && (a < 0 || a >= n);
        boolean noY = (op == 5 || op == 6) && (b < 0 || b >= n);
        if (n == 16 || op < 0 || op > 9 || op == 3 && (a < 0 || a > 7) || noX || noY) {
            return -1;
        }
        expressions.add(new int[] {op, a, b});
        return n;
    }

    int rule(int expression, int methods) {
        boolean pattern = buffer.matches("/|(/(\\*\\*|((?!\\*\\*)[^/\\\\%;])+))+");
        boolean none = expression < 0 || expression >= expressions.size();
        if (rules.size() == 8 || none || methods < 1 || methods > 15 || !pattern) {
            return -1;
        }
        rules.add(new int[] {expression, methods});
        patterns.add(buffer);
        buffer = "";
        return rules.size() - 1;
    }

    private boolean includes(int r, int s, int depth) {
        if (r == s) {
            return true;
        }
        for (int t = 0; t < 8 && depth > 0; t++) {
            if (added[r][t] && includes(t, s, depth - 1)) {
                return true;
            }
        }
        return false;
    }

    boolean role(int r, int s) {
        if (r < 0 || r > 7 || s < 0 || s > 7 || includes(r, s, 8)) {
            return false;
        }
        return added[r][s] = true;
    }

    private int draw() {
        return ++counts[5];
    }

    int user(int password, int roles, int scheme) {
        if (users.size() == 6 || (roles & ~255) != 0 || (scheme & ~1) != 0) {
            return -1;
        }
        users.add(new int[] {password, roles, scheme, draw(), 0, -1000});
        return users.size() - 1;
    }

    private boolean noneOrIn(int n, List<?> list) {
        return n >= -1 && n < list.size();
    }

    int service(int parent, int face, int condition) {
        if (types.size() == 6 || !noneOrIn(parent, types) || !noneOrIn(face, types) || !noneOrIn(condition, expressions)) {
            return -1;
        }
        types.add(new int[] {parent, face, condition});
        declared.add(new Integer[4]);
        return types.size() - 1;
    }

    boolean declare(int type, int operation, int condition) {
        if (type == -1 || !noneOrIn(type, types) || operation < 0 || operation > 3 || !noneOrIn(condition, expressions)) {
            return false;
        }
        if (declared.get(type)[operation] != null) {
            return false;
        }
        declared.get(type)[operation] = condition;
        return true;
    }

    boolean tick(int n) {
        if (n < 1 || n > 100) {
            return false;
        }
        counts[6] += n;
        return true;
    }

    private boolean live(Visit s) {
        return !s.ended && counts[6] <= s.made + 60 && counts[6] <= s.used + 20;
    }

    private List<Visit> liveOf(int user) {
        List<Visit> found = new ArrayList<>();
        for (Visit s : sessions) {
            if (s.user == user && live(s)) {
                found.add(s);
            }
        }
        return found;
    }

    private List<Visit> seriesOf(int user) {
        List<Visit> found = new ArrayList<>();
        for (Visit s : series) {
            if (s.user == user && !s.ended) {
                found.add(s);
            }
        }
        return found;
    }

    private Visit visit(int user, boolean isRemembered) {
        Visit made = new Visit();
        made.user = user;
        made.id = draw();
        made.token = draw();
        made.remembered = isRemembered;
        made.made = counts[6];
        made.used = counts[6];
        return made;
    }

    private int makeSession(int user, boolean isRemembered) {
        List<Visit> there = liveOf(user);
        if (there.size() == 2) {
            there.sort((p, q) -> p.used != q.used ? Integer.compare(p.used, q.used) : Integer.compare(p.id, q.id));
            there.get(0).ended = true;
        }
        sessions.add(visit(user, isRemembered));
        return sessions.get(sessions.size() - 1).id;
    }

    private Visit liveWith(int id) {
        for (Visit s : sessions) {
            if (s.id == id && live(s)) {
                return s;
            }
        }
        return null;
    }

    int login(int user, int password, int session, boolean remember) {
        if (user < 0 || user >= users.size()) {
            return -1;
        }
        int[] u = users.get(user);
        if (counts[6] - u[LOCK] < 10) {
            return -2;
        }
        if (Check.hash(password, u[SCHEME], u[SALT]) != Check.hash(u[0], u[SCHEME], u[SALT])) {
            u[ROW] = (u[ROW] + 1) % 3;
            if (u[ROW] == 0) {
                u[LOCK] = counts[6];
                counts[4]++;
            }
            return -3;
        }
        u[ROW] = 0;
        if (u[SCHEME] == 0) {
            u[SCHEME] = 1;
            u[SALT] = draw();
            u[0] = password;
        }
        Visit old = liveWith(session);
        if (old != null) {
            old.ended = true;
        }
        int id = makeSession(user, false);
        if (remember) {
            List<Visit> there = seriesOf(user);
            if (there.size() == 2) {
                there.get(0).ended = true;
            }
            series.add(visit(user, false));
        }
        return id;
    }

    boolean logout(int session) {
        Visit s = liveWith(session);
        if (s == null) {
            return false;
        }
        s.ended = true;
        seriesOf(s.user).forEach(t -> t.ended = true);
        return true;
    }

    /** The plain segments, or null if the path is bad. */
    private List<String> plain() {
        if (!buffer.startsWith("/") || buffer.contains("\\")) {
            return null;
        }
        String[] parts = buffer.substring(1).replaceAll(";[^/]*", "").split("/", -1);
        List<String> segments = new ArrayList<>();
        for (int i = 0; i < parts.length; i++) {
            if (!parts[i].matches("([^%]|%[0-9a-fA-F]{2})*") || parts[i].isEmpty() && i < parts.length - 1) {
                return null;
            }
            StringBuilder text = new StringBuilder();
            for (int k = 0; k < parts[i].length(); k++) {
                if (parts[i].charAt(k) != '%') {
                    text.append(parts[i].charAt(k));
                    continue;
                }
                char c = (char) Integer.parseInt(parts[i].substring(k + 1, k + 3), 16);
                if (c < 33 || c > 126 || "/\\%;".indexOf(c) >= 0) {
                    return null;
                }
                text.append(c);
                k += 2;
            }
            segments.add(text.toString());
        }
        if (segments.get(segments.size() - 1).isEmpty()) {
            segments.remove(segments.size() - 1);
        }
        segments.removeIf(s -> s.equals("."));
        for (int at = segments.indexOf(".."); at >= 0; at = segments.indexOf("..")) {
            if (at == 0) {
                return null;
            }
            segments.subList(at - 1, at + 1).clear();
        }
        return segments;
    }

    private static boolean laid(List<String> pieces, List<String> segments) {
        if (pieces.isEmpty()) {
            return segments.isEmpty();
        }
        List<String> rest = pieces.subList(1, pieces.size());
        if (pieces.get(0).equals("**")) {
            return laid(rest, segments) || !segments.isEmpty() && laid(pieces, segments.subList(1, segments.size()));
        }
        StringBuilder regex = new StringBuilder();
        for (char c : pieces.get(0).toCharArray()) {
            regex.append(c == '*' ? ".*" : c == '?' ? "." : Pattern.quote(String.valueOf(c)));
        }
        return !segments.isEmpty() && segments.get(0).matches(regex.toString())
                && laid(rest, segments.subList(1, segments.size()));
    }

    private boolean patternFits(int rule, List<String> segments) {
        String pattern = patterns.get(rule).substring(1);
        return laid(pattern.isEmpty() ? List.of() : Arrays.asList(pattern.split("/")), segments);
    }

    /** TRUE, FALSE, or null for ERROR. */
    private Boolean value(int e, int argument) {
        int a = expressions.get(e)[1];
        int b = expressions.get(e)[2];
        boolean known = subject >= 0;
        switch (expressions.get(e)[0]) {
            case 0: return true;
            case 1: return known;
            case 2: return known && !remembered;
            case 3: return known && hasRole(a);
            case 4: return value(a, argument) == null ? null : !value(a, argument);
            case 5: return value(a, argument) == Boolean.TRUE ? value(b, argument) : value(a, argument);
            case 6: return value(a, argument) == Boolean.FALSE ? value(b, argument) : value(a, argument);
            case 7: return known && subject == argument;
            case 8: return argument < a;
            default: return argument == 0 ? null : Boolean.valueOf((int) ((long) b / argument) >= a);
        }
    }

    private boolean hasRole(int role) {
        for (int r = 0; r < 8; r++) {
            if ((users.get(subject)[1] & 1 << r) != 0 && includes(r, role, 8)) {
                return true;
            }
        }
        return false;
    }

    int open(int method, int session, int secret, int seriesId, int token) {
        if (method < 0 || method > 3 || open) {
            return -1;
        }
        List<String> segments = plain();
        buffer = "";
        if (segments == null) {
            return 400;
        }
        Visit s = liveWith(session);
        if (s != null) {
            s.used = counts[6];
            subject = s.user;
            remembered = s.remembered;
        } else {
            bySeries(seriesId, token);
        }
        int answer = method > 1 && (s == null || s.token != secret) ? 419 : answer(method, segments);
        open = answer < 400;
        if (open) {
            counts[0]++;
        } else {
            subject = -1;
        }
        return answer;
    }

    private void bySeries(int id, int token) {
        for (Visit r : series) {
            if (r.id != id || r.ended) {
                continue;
            }
            if (r.token == token) {
                r.token = draw();
                makeSession(r.user, true);
                subject = r.user;
                remembered = true;
            } else {
                counts[3]++;
                seriesOf(r.user).forEach(t -> t.ended = true);
                liveOf(r.user).forEach(t -> t.ended = true);
            }
            return;
        }
    }

    private int answer(int method, List<String> segments) {
        for (int i = 0; i < rules.size(); i++) {
            if ((rules.get(i)[1] & 1 << method) != 0 && patternFits(i, segments)) {
                if (value(rules.get(i)[0], segments.size()) == Boolean.TRUE) {
                    return 200 + i;
                }
                return subject < 0 ? 401 : 403;
            }
        }
        return 403;
    }

    int call(int type, int operation, int argument) {
        if (type < 0 || type >= types.size() || operation < 0 || operation > 3) {
            return -1;
        }
        List<Integer> guards = new ArrayList<>();
        int finder = type;
        while (finder >= 0 && declared.get(finder)[operation] == null) {
            finder = types.get(finder)[0];
        }
        if (finder < 0) {
            return -1;
        }
        guards.add(declared.get(finder)[operation]);
        guards.add(types.get(finder)[2]);
        for (int t = type; t >= 0; t = types.get(t)[0]) {
            int face = types.get(t)[1];
            if (face >= 0 && declared.get(face)[operation] != null) {
                guards.add(declared.get(face)[operation]);
                guards.add(types.get(face)[2]);
            }
        }
        guards.removeIf(g -> g == -1);
        boolean runs = guards.isEmpty() || value(guards.get(0), argument) == Boolean.TRUE;
        counts[runs ? 1 : 2]++;
        return runs ? 1 : 0;
    }

    boolean close() {
        boolean was = open;
        open = false;
        subject = -1;
        return was;
    }

    int who() {
        return subject < 0 ? -1 : subject + (remembered ? 8 : 0);
    }

    int fits(int rule) {
        if (rule < 0 || rule >= rules.size()) {
            return -1;
        }
        List<String> segments = plain();
        return segments == null ? -2 : patternFits(rule, segments) ? 1 : 0;
    }

    int session(int user, int i, int what) {
        List<Visit> there = liveOf(user);
        if (i < 0 || i >= there.size() || what < 0 || what > 2) {
            return -1;
        }
        Visit s = there.get(i);
        return what == 0 ? s.id : what == 1 ? s.token : s.remembered ? 1 : 0;
    }

    int series(int user, int i, int what) {
        List<Visit> there = seriesOf(user);
        if (i < 0 || i >= there.size() || what < 0 || what > 1) {
            return -1;
        }
        return what == 0 ? there.get(i).id : there.get(i).token;
    }

    int hash(int user) {
        if (user < 0 || user >= users.size()) {
            return 0;
        }
        int[] u = users.get(user);
        return Check.hash(u[0], u[SCHEME], u[SALT]);
    }

    int count(int kind) {
        return kind < 0 || kind > 6 ? -1 : counts[kind];
    }
}
