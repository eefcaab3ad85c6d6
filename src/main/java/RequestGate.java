import java.util.ArrayList;

/** The gate of a web application; the promises that it keeps stand in the project's document. */
public final class RequestGate {
    private static final int NONE = -1;
    private static final int REFUSED = -1;

    private static final int MOST_CHARACTERS = 40;
    /** Each piece or segment that is kept has a character and a / before it. */
    private static final int MOST_PIECES = MOST_CHARACTERS / 2;
    private static final int MOST_EXPRESSIONS = 16;
    private static final int MOST_RULES = 8;
    private static final int MOST_USERS = 6;
    private static final int MOST_TYPES = 6;
    private static final int ROLES = 8;
    private static final int ALL_ROLES = 255;
    private static final int METHODS = 4;
    private static final int ALL_METHODS = 15;
    private static final int FIRST_UNSAFE_METHOD = 2;
    private static final int OPERATIONS = 4;
    private static final int LONGEST_TICK = 100;

    private static final int GRANTED = 200;
    private static final int BAD_PATH = 400;
    private static final int UNKNOWN_SUBJECT = 401;
    private static final int FORBIDDEN = 403;
    private static final int UNPROVED = 419;

    private static final int LOCKED = -2;
    private static final int WRONG_PASSWORD = -3;
    private static final int NOT_PLAIN = -2;
    private static final int REMEMBERED = 8;

    private final Text buffer;
    private final PlainPath path;
    private final Layer layer;
    private final Conditions conditions;
    private final Roles inclusions;
    private final ArrayList<Rule> rules;
    private final ArrayList<User> users;
    private final ArrayList<Service> services;
    private final Tickets sessions;
    private final Tickets memory;

    /** As who() tells it; NONE whenever no request is open. */
    private int subject;
    private boolean requestIsOpen;
    private int time;
    private int drawn;
    private int opened;
    private int bodiesRun;
    private int bodiesBarred;
    private int thefts;
    private int lockings;

    public RequestGate() {
        buffer = new Text();
        path = new PlainPath();
        layer = new Layer();
        conditions = new Conditions();
        inclusions = new Roles();
        rules = new ArrayList<>();
        users = new ArrayList<>();
        services = new ArrayList<>();
        sessions = new Tickets();
        memory = new Tickets();
        subject = NONE;
    }

    public boolean type(int c) {
        return buffer.append(c);
    }

    public void clear() {
        buffer.empty();
    }

    public int expression(int op, int a, int b) {
        return conditions.add(op, a, b);
    }

    public int rule(int expression, int methods) {
        if (rules.size() >= MOST_RULES || !conditions.has(expression)) {
            return REFUSED;
        }
        if (methods < 1 || methods > ALL_METHODS || !Rule.isPattern(buffer)) {
            return REFUSED;
        }
        rules.add(new Rule(buffer, expression, methods));
        buffer.empty();
        return rules.size() - 1;
    }

    public boolean role(int r, int s) {
        return inclusions.add(r, s);
    }

    public int user(int password, int roles, int scheme) {
        if (users.size() >= MOST_USERS || roles < 0 || roles > ALL_ROLES) {
            return REFUSED;
        }
        if (scheme != User.OLD_SCHEME && scheme != User.NEW_SCHEME) {
            return REFUSED;
        }
        users.add(new User(password, roles, scheme, draw()));
        return users.size() - 1;
    }

    public int service(int parent, int face, int condition) {
        if (services.size() >= MOST_TYPES || !isConditionOrNone(condition)) {
            return REFUSED;
        }
        if (!isTypeOrNone(parent) || !isTypeOrNone(face)) {
            return REFUSED;
        }
        services.add(new Service(parent, face, condition));
        return services.size() - 1;
    }

    public boolean declare(int type, int operation, int condition) {
        if (!isType(type) || !isOperation(operation) || !isConditionOrNone(condition)) {
            return false;
        }
        return services.get(type).add(operation, condition);
    }

    public boolean tick(int n) {
        if (n < 1 || n > LONGEST_TICK) {
            return false;
        }
        time += n;
        // Only time makes a session die by itself, so that all that are kept are live.
        sessions.dropDead(time);
        return true;
    }

    public int login(int user, int password, int session, boolean remember) {
        if (!isUser(user)) {
            return REFUSED;
        }
        User account = users.get(user);
        if (account.isLocked(time)) {
            return LOCKED;
        }
        if (!account.hasPassword(password)) {
            if (account.lockAfterTooManyTries(time)) {
                lockings++;
            }
            return WRONG_PASSWORD;
        }
        account.forgetWrongTries();
        if (account.isOfOldScheme()) {
            account.moveToNewScheme(password, draw());
        }
        sessions.end(session);
        int id = make(sessions, user, false);
        if (remember) {
            make(memory, user, false);
        }
        return id;
    }

    public boolean logout(int session) {
        Ticket ended = sessions.find(session);
        if (ended == null) {
            return false;
        }
        sessions.end(session);
        memory.endAllOf(ended.user);
        return true;
    }

    public int open(int method, int session, int secret, int series, int token) {
        if (method < 0 || method >= METHODS || requestIsOpen) {
            return REFUSED;
        }
        boolean plain = path.read(buffer);
        buffer.empty();
        if (!plain) {
            return BAD_PATH;
        }
        Ticket used = sessions.find(session);
        int asking = used != null ? subjectOf(used) : subjectBySeries(series, token);
        boolean proved = used != null && used.token == secret;
        if (method >= FIRST_UNSAFE_METHOD && !proved) {
            return UNPROVED;
        }
        return decide(method, asking);
    }

    public int call(int type, int operation, int argument) {
        if (!isOperation(operation)) {
            return REFUSED;
        }
        int finder = typeThatDeclares(type, operation);
        if (finder == NONE) {
            return REFUSED;
        }
        int guard = conditionAt(finder, operation);
        if (guard == NONE) {
            guard = conditionByInterfaces(type, operation);
        }
        if (guard == NONE || isTrue(guard, subject, argument)) {
            bodiesRun++;
            return 1;
        }
        bodiesBarred++;
        return 0;
    }

    public boolean close() {
        if (!requestIsOpen) {
            return false;
        }
        requestIsOpen = false;
        subject = NONE;
        return true;
    }

    public int who() {
        return subject;
    }

    public int fits(int rule) {
        if (rule < 0 || rule >= rules.size()) {
            return NONE;
        }
        if (!path.read(buffer)) {
            return NOT_PLAIN;
        }
        return layer.canLay(rules.get(rule).pattern, path.segments) ? 1 : 0;
    }

    public int session(int user, int i, int what) {
        Ticket found = sessions.findOf(user, i);
        if (found == null) {
            return NONE;
        }
        switch (what) {
            case 0:
                return found.id;
            case 1:
                return found.token;
            case 2:
                return found.remembered ? 1 : 0;
            default:
                return NONE;
        }
    }

    public int series(int user, int i, int what) {
        Ticket found = memory.findOf(user, i);
        if (found == null) {
            return NONE;
        }
        switch (what) {
            case 0:
                return found.id;
            case 1:
                return found.token;
            default:
                return NONE;
        }
    }

    public int hash(int user) {
        return isUser(user) ? users.get(user).hash : 0;
    }

    public int count(int kind) {
        switch (kind) {
            case 0:
                return opened;
            case 1:
                return bodiesRun;
            case 2:
                return bodiesBarred;
            case 3:
                return thefts;
            case 4:
                return lockings;
            case 5:
                return drawn;
            case 6:
                return time;
            default:
                return NONE;
        }
    }

    private boolean isUser(int number) {
        return number >= 0 && number < users.size();
    }

    private boolean isType(int number) {
        return number >= 0 && number < services.size();
    }

    private boolean isTypeOrNone(int number) {
        return number == NONE || isType(number);
    }

    private boolean isConditionOrNone(int number) {
        return number == NONE || conditions.has(number);
    }

    private static boolean isOperation(int number) {
        return number >= 0 && number < OPERATIONS;
    }

    private int draw() {
        drawn++;
        return drawn;
    }

    private int make(Tickets tickets, int user, boolean remembered) {
        int id = draw();
        int token = draw();
        tickets.add(new Ticket(user, id, token, remembered, time));
        return id;
    }

    private int subjectOf(Ticket session) {
        session.lastUsed = time;
        return session.remembered ? session.user + REMEMBERED : session.user;
    }

    private int subjectBySeries(int id, int token) {
        Ticket series = memory.find(id);
        if (series == null) {
            return NONE;
        }
        if (series.token != token) {
            // A token is good once: somebody else must have used this one, or guesses.
            thefts++;
            memory.endAllOf(series.user);
            sessions.endAllOf(series.user);
            return NONE;
        }
        series.token = draw();
        make(sessions, series.user, true);
        return series.user + REMEMBERED;
    }

    private int decide(int method, int asking) {
        int number = firstRuleThatFits(method);
        if (number == NONE) {
            return FORBIDDEN;
        }
        if (!isTrue(rules.get(number).expression, asking, path.segments.size)) {
            return asking == NONE ? UNKNOWN_SUBJECT : FORBIDDEN;
        }
        requestIsOpen = true;
        subject = asking;
        opened++;
        return GRANTED + number;
    }

    private int firstRuleThatFits(int method) {
        for (int i = 0; i < rules.size(); i++) {
            Rule rule = rules.get(i);
            if (rule.isFor(method) && layer.canLay(rule.pattern, path.segments)) {
                return i;
            }
        }
        return NONE;
    }

    private boolean isTrue(int condition, int asking, int argument) {
        int number = asking >= REMEMBERED ? asking - REMEMBERED : asking;
        // Asked anew each time: role() may have added roles since the request was opened.
        int held = isUser(number) ? inclusions.includedIn(users.get(number).given) : 0;
        return conditions.isTrueFor(condition, asking, held, argument);
    }

    private int typeThatDeclares(int type, int operation) {
        int at = type;
        for (int i = 0; i < MOST_TYPES && isType(at); i++) {
            Service service = services.get(at);
            if (service.declares(operation)) {
                return at;
            }
            at = service.parent;
        }
        return NONE;
    }

    private int conditionByInterfaces(int type, int operation) {
        int at = type;
        for (int i = 0; i < MOST_TYPES && isType(at); i++) {
            Service service = services.get(at);
            int condition = conditionAt(service.face, operation);
            if (condition != NONE) {
                return condition;
            }
            at = service.parent;
        }
        return NONE;
    }

    private int conditionAt(int type, int operation) {
        return isType(type) ? services.get(type).conditionOf(operation) : NONE;
    }

    /** The buffer. */
    private static final class Text {
        private static final int LEAST_CODE = 33;
        private static final int GREATEST_CODE = 126;

        private final char[] characters = new char[MOST_CHARACTERS];
        int length;

        static boolean isCode(int c) {
            return c >= LEAST_CODE && c <= GREATEST_CODE;
        }

        boolean append(int c) {
            if (!isCode(c) || length >= MOST_CHARACTERS) {
                return false;
            }
            characters[length] = (char) c;
            length++;
            return true;
        }

        void empty() {
            length = 0;
        }

        /** The character there, or 0, which no text holds, where there is none. */
        char at(int i) {
            return i >= 0 && i < length ? characters[i] : 0;
        }

        /** The first place of a character from one place on and before another, or that other. */
        int find(char sought, int from, int to) {
            for (int i = from; i < to; i++) {
                if (at(i) == sought) {
                    return i;
                }
            }
            return to;
        }

        boolean holds(char sought) {
            return find(sought, 0, length) < length;
        }

        boolean endsPieceAt(int i) {
            return i == length || at(i) == '/';
        }
    }

    /** Short texts in a row: the segments of a path or the pieces of a pattern. */
    private static final class Pieces {
        private final char[] characters = new char[MOST_CHARACTERS];
        private final int[] starts = new int[MOST_PIECES];
        private final int[] ends = new int[MOST_PIECES];
        private int begun;
        private int written;
        int size;

        void empty() {
            begun = 0;
            written = 0;
            size = 0;
        }

        void write(int c) {
            if (written < MOST_CHARACTERS) {
                characters[written] = (char) c;
                written++;
            }
        }

        int writtenLength() {
            return written - begun;
        }

        boolean wroteDots(int n) {
            if (writtenLength() != n) {
                return false;
            }
            for (int i = begun; i < written; i++) {
                if (characters[i] != '.') {
                    return false;
                }
            }
            return true;
        }

        void keepWritten() {
            if (size < MOST_PIECES) {
                starts[size] = begun;
                ends[size] = written;
                size++;
            }
            begun = written;
        }

        void dropWritten() {
            written = begun;
        }

        void dropLastKept() {
            if (size > 0) {
                size--;
            }
        }

        int lengthOf(int piece) {
            return piece >= 0 && piece < size ? ends[piece] - starts[piece] : 0;
        }

        /** The character there, or 0, which no piece holds, where there is none. */
        char at(int piece, int i) {
            if (piece < 0 || piece >= size || i < 0 || i >= ends[piece] - starts[piece]) {
                return 0;
            }
            return characters[starts[piece] + i];
        }

        boolean isTwoStars(int piece) {
            return lengthOf(piece) == 2 && at(piece, 0) == '*' && at(piece, 1) == '*';
        }
    }

    /** Makes a path plain; its rows are used again for every path. */
    private static final class PlainPath {
        final Pieces segments = new Pieces();

        /** False if the path is bad: then the segments mean nothing. */
        boolean read(Text text) {
            segments.empty();
            if (text.at(0) != '/' || text.holds('\\')) {
                return false;
            }
            int from = 1;
            for (int i = 1; i <= text.length; i++) {
                if (text.endsPieceAt(i)) {
                    boolean last = i == text.length;
                    if (!decode(text, from, text.find(';', from, i)) || !place(last)) {
                        return false;
                    }
                    from = i + 1;
                }
            }
            return true;
        }

        private boolean decode(Text text, int from, int to) {
            for (int i = from; i < to; i++) {
                int c = text.at(i);
                if (c == '%') {
                    c = i + 2 < to ? codeOf(text.at(i + 1), text.at(i + 2)) : NONE;
                    i += 2;
                }
                if (c == NONE) {
                    return false;
                }
                segments.write(c);
            }
            return true;
        }

        private static int codeOf(char high, char low) {
            int first = digitOf(high);
            int second = digitOf(low);
            if (first == NONE || second == NONE) {
                return NONE;
            }
            int c = 16 * first + second;
            boolean wouldMislead = c == '/' || c == '\\' || c == '%' || c == ';';
            return Text.isCode(c) && !wouldMislead ? c : NONE;
        }

        private static int digitOf(char c) {
            if (c >= '0' && c <= '9') {
                return c - '0';
            }
            if (c >= 'a' && c <= 'f') {
                return c - 'a' + 10;
            }
            if (c >= 'A' && c <= 'F') {
                return c - 'A' + 10;
            }
            return NONE;
        }

        /** Keeps the segment that was written, or lets it fall out; false if that makes the path bad. */
        private boolean place(boolean last) {
            if (segments.writtenLength() == 0) {
                return last;
            }
            if (segments.wroteDots(1)) {
                segments.dropWritten();
                return true;
            }
            if (segments.wroteDots(2)) {
                boolean hasOneBefore = segments.size > 0;
                segments.dropWritten();
                segments.dropLastKept();
                return hasOneBefore;
            }
            segments.keepWritten();
            return true;
        }
    }

    /** Lays patterns along paths; its two rows are used again each time. */
    private static final class Layer {
        private final boolean[] laid = new boolean[MOST_PIECES + 1];
        private final boolean[] reached = new boolean[MOST_CHARACTERS + 1];

        /** After each piece, laid[n] says whether the pieces so far can lie on just n segments. */
        boolean canLay(Pieces pattern, Pieces segments) {
            begin(laid);
            for (int p = 0; p < pattern.size; p++) {
                if (pattern.isTwoStars(p)) {
                    spread(laid);
                } else {
                    layOnOne(pattern, p, segments);
                }
            }
            return laid[segments.size];
        }

        private void layOnOne(Pieces pattern, int p, Pieces segments) {
            // From the end on, as each place is told by what stood at the one before it.
            for (int n = segments.size; n > 0; n--) {
                laid[n] = laid[n - 1] && covers(pattern, p, segments, n - 1);
            }
            laid[0] = false;
        }

        /** After each character, reached[n] says whether those so far can stand for just n characters. */
        private boolean covers(Pieces pattern, int p, Pieces segments, int s) {
            int length = segments.lengthOf(s);
            begin(reached);
            for (int i = 0; i < pattern.lengthOf(p); i++) {
                char c = pattern.at(p, i);
                if (c == '*') {
                    spread(reached);
                    continue;
                }
                for (int n = length; n > 0; n--) {
                    reached[n] = reached[n - 1] && (c == '?' || c == segments.at(s, n - 1));
                }
                reached[0] = false;
            }
            return reached[length];
        }

        private static void begin(boolean[] row) {
            for (int n = 0; n < row.length; n++) {
                row[n] = n == 0;
            }
        }

        /** What stands for any number, none too, goes on from each place that was come to. */
        private static void spread(boolean[] row) {
            for (int n = 1; n < row.length; n++) {
                row[n] = row[n] || row[n - 1];
            }
        }
    }

    /** A rule. */
    private static final class Rule {
        final Pieces pattern = new Pieces();
        final int expression;
        private final int methods;

        /** The text has been found to be a pattern. */
        Rule(Text text, int expression, int methods) {
            this.expression = expression;
            this.methods = methods;
            for (int i = 1; i <= text.length; i++) {
                if (!text.endsPieceAt(i)) {
                    pattern.write(text.at(i));
                } else if (text.length > 1) {
                    pattern.keepWritten();
                }
            }
        }

        boolean isFor(int method) {
            return ((methods >> method) & 1) == 1;
        }

        static boolean isPattern(Text text) {
            if (text.at(0) != '/' || text.holds('\\') || text.holds('%') || text.holds(';')) {
                return false;
            }
            if (text.length == 1) {
                return true;
            }
            int from = 1;
            for (int i = 1; i <= text.length; i++) {
                if (text.endsPieceAt(i)) {
                    if (!isPiece(text, from, i)) {
                        return false;
                    }
                    from = i + 1;
                }
            }
            return true;
        }

        private static boolean isPiece(Text text, int from, int to) {
            if (to - from == 2) {
                // Two stars may stand here as the whole piece, and any other two characters too.
                return true;
            }
            for (int i = from; i + 1 < to; i++) {
                if (text.at(i) == '*' && text.at(i + 1) == '*') {
                    return false;
                }
            }
            return to > from;
        }
    }

    /** Which roles include which, as a set of bits for each role. */
    private static final class Roles {
        private final int[] included = new int[ROLES];

        Roles() {
            for (int r = 0; r < ROLES; r++) {
                included[r] = 1 << r;
            }
        }

        static boolean isRole(int r) {
            return r >= 0 && r < ROLES;
        }

        static boolean contains(int set, int r) {
            return ((set >> r) & 1) == 1;
        }

        boolean add(int r, int s) {
            if (!isRole(r) || !isRole(s) || contains(included[r], s)) {
                return false;
            }
            for (int i = 0; i < ROLES; i++) {
                if (contains(included[i], r)) {
                    included[i] |= included[s];
                }
            }
            return true;
        }

        int includedIn(int given) {
            int all = 0;
            for (int r = 0; r < ROLES; r++) {
                if (contains(given, r)) {
                    all |= included[r];
                }
            }
            return all;
        }
    }

    /** The expressions. */
    private static final class Conditions {
        private static final int FALSE = 0;
        private static final int TRUE = 1;
        private static final int ERROR = 2;

        private static final int YES = 0;
        private static final int KNOWN = 1;
        private static final int FULL = 2;
        private static final int ROLE = 3;
        private static final int NOT = 4;
        private static final int AND = 5;
        private static final int OR = 6;
        private static final int SELF = 7;
        private static final int BELOW = 8;
        private static final int SHARE = 9;

        private final int[] ops = new int[MOST_EXPRESSIONS];
        private final int[] firsts = new int[MOST_EXPRESSIONS];
        private final int[] seconds = new int[MOST_EXPRESSIONS];
        private final int[] values = new int[MOST_EXPRESSIONS];
        private int size;

        boolean has(int number) {
            return number >= 0 && number < size;
        }

        int add(int op, int a, int b) {
            if (size >= MOST_EXPRESSIONS || op < YES || op > SHARE || !canTake(op, a, b)) {
                return REFUSED;
            }
            ops[size] = op;
            firsts[size] = a;
            seconds[size] = b;
            size++;
            return size - 1;
        }

        private boolean canTake(int op, int a, int b) {
            switch (op) {
                case ROLE:
                    return Roles.isRole(a);
                case NOT:
                    return has(a);
                case AND:
                case OR:
                    return has(a) && has(b);
                default:
                    return true;
            }
        }

        /** One way up from the first, as parts are earlier; going down would tell shared parts again and again. */
        boolean isTrueFor(int number, int asking, int held, int argument) {
            if (!has(number)) {
                return false;
            }
            for (int i = 0; i <= number; i++) {
                boolean joint = ops[i] == NOT || ops[i] == AND || ops[i] == OR;
                values[i] = joint ? jointValue(i) : singleValue(i, asking, held, argument);
            }
            return values[number] == TRUE;
        }

        private int jointValue(int i) {
            int x = values[firsts[i]];
            if (x == ERROR) {
                return ERROR;
            }
            if (ops[i] == NOT) {
                return truth(x == FALSE);
            }
            int deciding = ops[i] == AND ? FALSE : TRUE;
            return x == deciding ? x : values[seconds[i]];
        }

        private int singleValue(int i, int asking, int held, int argument) {
            boolean known = asking != NONE;
            boolean remembered = asking >= REMEMBERED;
            switch (ops[i]) {
                case KNOWN:
                    return truth(known);
                case FULL:
                    return truth(known && !remembered);
                case ROLE:
                    return truth(known && Roles.contains(held, firsts[i]));
                case SELF:
                    return truth(known && argument == (remembered ? asking - REMEMBERED : asking));
                case BELOW:
                    return truth(argument < firsts[i]);
                case SHARE:
                    return argument == 0 ? ERROR : truth(seconds[i] / argument >= firsts[i]);
                default:
                    return TRUE;
            }
        }

        private static int truth(boolean holds) {
            return holds ? TRUE : FALSE;
        }
    }

    /** A user's given roles, password and wrong tries. */
    private static final class User {
        static final int OLD_SCHEME = 0;
        static final int NEW_SCHEME = 1;
        private static final int OLD_ROUNDS = 4;
        private static final int NEW_ROUNDS = 9;
        private static final int TOO_MANY_TRIES = 3;
        private static final int LOCK_TIME = 10;

        final int given;
        private int scheme;
        private int salt;
        int hash;
        private int wrongTries;
        private int lockedUntil;

        User(int password, int given, int scheme, int salt) {
            this.given = given;
            this.scheme = scheme;
            this.salt = salt;
            this.hash = hashOf(password, scheme, salt);
        }

        private static int hashOf(int password, int scheme, int salt) {
            int rounds = scheme == OLD_SCHEME ? OLD_ROUNDS : NEW_ROUNDS;
            int h = salt;
            for (int i = 0; i < rounds; i++) {
                h = (31 * h + password) ^ (h >>> 9);
            }
            return h;
        }

        boolean hasPassword(int password) {
            return hashOf(password, scheme, salt) == hash;
        }

        boolean isOfOldScheme() {
            return scheme == OLD_SCHEME;
        }

        void moveToNewScheme(int password, int newSalt) {
            scheme = NEW_SCHEME;
            salt = newSalt;
            hash = hashOf(password, scheme, salt);
        }

        boolean isLocked(int now) {
            return now < lockedUntil;
        }

        void forgetWrongTries() {
            wrongTries = 0;
        }

        boolean lockAfterTooManyTries(int now) {
            wrongTries++;
            if (wrongTries < TOO_MANY_TRIES) {
                return false;
            }
            lockedUntil = now + LOCK_TIME;
            forgetWrongTries();
            return true;
        }
    }

    /** A session or a series: what somebody shows to say who asks. */
    private static final class Ticket {
        private static final int LONGEST_LIFE = 60;
        private static final int LONGEST_REST = 20;

        final int user;
        final int id;
        int token;
        final boolean remembered;
        private final int made;
        int lastUsed;

        Ticket(int user, int id, int token, boolean remembered, int now) {
            this.user = user;
            this.id = id;
            this.token = token;
            this.remembered = remembered;
            this.made = now;
            this.lastUsed = now;
        }

        boolean isDead(int now) {
            return now - made > LONGEST_LIFE || now - lastUsed > LONGEST_REST;
        }
    }

    /** The sessions or the series of all users, by rising IDs; at most two of each user. */
    private static final class Tickets {
        private final ArrayList<Ticket> all = new ArrayList<>();

        Ticket find(int id) {
            for (int i = 0; i < all.size(); i++) {
                Ticket ticket = all.get(i);
                if (ticket.id == id) {
                    return ticket;
                }
            }
            return null;
        }

        Ticket findOf(int user, int place) {
            int before = 0;
            for (int i = 0; i < all.size(); i++) {
                Ticket ticket = all.get(i);
                if (ticket.user == user) {
                    if (before == place) {
                        return ticket;
                    }
                    before++;
                }
            }
            return null;
        }

        void add(Ticket ticket) {
            Ticket first = findOf(ticket.user, 0);
            Ticket second = findOf(ticket.user, 1);
            if (first != null && second != null) {
                // A series is never marked as used again, so that of these the older one goes.
                end(second.lastUsed < first.lastUsed ? second.id : first.id);
            }
            all.add(ticket);
        }

        void end(int id) {
            for (int i = all.size() - 1; i >= 0; i--) {
                if (all.get(i).id == id) {
                    all.remove(i);
                }
            }
        }

        void endAllOf(int user) {
            for (int i = all.size() - 1; i >= 0; i--) {
                if (all.get(i).user == user) {
                    all.remove(i);
                }
            }
        }

        void dropDead(int now) {
            for (int i = all.size() - 1; i >= 0; i--) {
                if (all.get(i).isDead(now)) {
                    all.remove(i);
                }
            }
        }
    }

    /** A type. */
    private static final class Service {
        final int parent;
        final int face;
        private final int condition;
        private final boolean[] declared = new boolean[OPERATIONS];
        private final int[] conditions = new int[OPERATIONS];

        Service(int parent, int face, int condition) {
            this.parent = parent;
            this.face = face;
            this.condition = condition;
        }

        boolean declares(int operation) {
            return isOperation(operation) && declared[operation];
        }

        boolean add(int operation, int condition) {
            if (!isOperation(operation) || declared[operation]) {
                return false;
            }
            declared[operation] = true;
            conditions[operation] = condition;
            return true;
        }

        /** With which a declared operation stands here: its own one, or else that of the type. */
        int conditionOf(int operation) {
            if (!declares(operation)) {
                return NONE;
            }
            return conditions[operation] != NONE ? conditions[operation] : condition;
        }
    }
}
