/** Promises 10 to 21 at their boundaries: time, logins and locks, requests, bodies, and what is asked about them. */
public final class AskingTest {
    private static final int LEAST = Integer.MIN_VALUE;
    private static final int GREATEST = Integer.MAX_VALUE;
    private static final int USERS = 6;
    private static final int NEXT = USERS + 1;

    public static void main(String[] args) {
        ticksAreOneToHundred();
        noSuchUserGoesBeforeLocked();
        lockedGoesBeforeThePassword();
        thirdTimeInARow();
        eachUserHasARow();
        lessThanTenLaterItIsLocked();
        rowBeginsAnewAfterALock();
        rowBeginsAnewAfterALogin();
        triesWhenLockedChangeNothing();
        wrongPasswordChangesOnlyTheRow();
        whatHasTheSameHashIsGood();
        schemeZeroBecomesOne();
        numbersOfALogin();
        loginEndsALiveSession();
        loginDoesNotEndWhatItMakes();
        seriesOnlyIfRemembered();
        logoutEndsOneSessionAndAllSeries();
        methodsAreZeroToThree();
        aRequestIsOpen();
        badPathGoesBeforeWhoAsks();
        sessionWasLastUsedNow();
        seriesWithItsToken();
        seriesWithAnotherToken();
        noSuchSeries();
        unsafeNeedsTheToken();
        unsafeGoesBeforeTheRules();
        firstRuleWithTheMethod();
        argumentIsTheNumberOfSegments();
        anythingButTrueIsNo();
        callsNeedAnOperationThatIsFound();
        callsWithoutARequestHaveNoSubject();
        bodiesRunOrDoNot();
        closeEndsTheRequest();
        whoTellsTheSubject();
        fitsTellsOfEachRule();
        sessionTellsThreeThings();
        seriesTellsTwoThings();
        countsTellSevenThings();
        eachCountGrowsByItsOwn();
        fiveHundredAndTwelveCalls();
        Check.end();
    }

    /** Six users with the passwords 10 to 15 and the salts 1 to 6; rule 0 lets all through; the next number is NEXT. */
    private static RequestGate gate(int scheme) {
        RequestGate gate = new RequestGate();
        gate.expression(0, 0, 0);
        gate.expression(1, 0, 0);
        Check.rule(gate, "/", 0, 15);
        Check.rule(gate, "/known", 1, 15);
        for (int i = 0; i < USERS; i++) {
            gate.user(10 + i, 0, scheme);
        }
        return gate;
    }

    private static void sessions(RequestGate gate, String text, int user, int first, int second) {
        Check.due(text + ": first session of " + user, gate.session(user, 0, 0), first);
        Check.due(text + ": second session of " + user, gate.session(user, 1, 0), second);
    }

    private static void memory(RequestGate gate, String text, int user, int first, int second) {
        Check.due(text + ": older series of " + user, gate.series(user, 0, 0), first);
        Check.due(text + ": newer series of " + user, gate.series(user, 1, 0), second);
    }

    private static void wrongly(RequestGate gate, int user, int times) {
        for (int i = 0; i < times; i++) {
            Check.due("wrong password", gate.login(user, 9, 0, false), -3);
        }
    }

    private static void counts(RequestGate gate, String text, int... due) {
        for (int kind = 0; kind < due.length; kind++) {
            Check.due(text + ": count(" + kind + ")", gate.count(kind), due[kind]);
        }
    }

    private static void ticksAreOneToHundred() {
        Check.about("Promise 10: Time grows by n (1 .. 100); false, refused, if n is not so.");
        RequestGate gate = new RequestGate();
        int time = 0;
        for (int n = -3; n <= 103; n++) {
            boolean good = n >= 1 && n <= 100;
            Check.due("tick(" + n + ")", gate.tick(n), good);
            time += good ? n : 0;
            Check.due("time", gate.count(6), time);
        }
        Check.due("tick(least)", gate.tick(LEAST), false);
        Check.due("tick(greatest)", gate.tick(GREATEST), false);
        Check.due("time", gate.count(6), 5050);
    }

    private static void noSuchUserGoesBeforeLocked() {
        Check.about("Promise 11: -1, refused, if there is no such user");
        RequestGate gate = gate(1);
        for (int user : new int[] {-1, USERS, USERS + 1, LEAST, GREATEST}) {
            for (int i = 0; i < 5; i++) {
                Check.due("login(" + user + ")", gate.login(user, 10, 0, true), -1);
            }
        }
        counts(gate, "nothing", 0, 0, 0, 0, 0, USERS, 0);
        Check.due("the first user", gate.login(0, 10, 0, false), NEXT);
        Check.due("the last user", gate.login(5, 15, 0, false), NEXT + 2);
    }

    private static void lockedGoesBeforeThePassword() {
        Check.about("Promise 11: then -2, refused, if the user is LOCKED");
        RequestGate gate = gate(1);
        int session = gate.login(5, 15, 0, true);
        wrongly(gate, 5, 3);
        for (int password : new int[] {9, 15}) {
            Check.due("locked", gate.login(5, password, session, true), -2);
        }
        sessions(gate, "what is live stays", 5, session, -1);
        memory(gate, "what is remembered stays", 5, session + 2, -1);
        Check.due("a locked user still asks", Check.get(gate, "/", session), 200);
        Check.due("who", gate.who(), 5);
        gate.close();
        Check.open(gate, "/", 0, 0, 0, session + 2, session + 3);
        Check.due("and is remembered", gate.who(), 13);
        Check.due("none is drawn by what is refused", gate.count(5), session + 6);
    }

    private static void thirdTimeInARow() {
        Check.about("Promise 11: -3, and when that was the third time in a row for this user, the user is locked");
        for (int wrong = 0; wrong <= 3; wrong++) {
            RequestGate gate = gate(1);
            wrongly(gate, 0, wrong);
            Check.due("locked after " + wrong, gate.count(4), wrong == 3 ? 1 : 0);
            Check.due("login after " + wrong, gate.login(0, 10, 0, false), wrong == 3 ? -2 : NEXT);
        }
    }

    private static void eachUserHasARow() {
        Check.about("Promise 11: the third time in a row for this user");
        RequestGate gate = gate(1);
        for (int i = 0; i < 3; i++) {
            for (int user = 0; user < USERS; user++) {
                Check.due("locked so far", gate.count(4), i < 2 ? 0 : user);
                wrongly(gate, user, 1);
                if (i < 2) {
                    Check.due("no such user breaks no row", gate.login(USERS, 9, 0, false), -1);
                }
            }
        }
        for (int user = 0; user < USERS; user++) {
            Check.due("locked", gate.login(user, 10 + user, 0, false), -2);
        }
        Check.due("all locked", gate.count(4), USERS);
        RequestGate other = gate(1);
        wrongly(other, 0, 2);
        Check.due("another user's login breaks it not", other.login(1, 11, 0, false), NEXT);
        wrongly(other, 0, 1);
        Check.due("locked", other.login(0, 10, 0, false), -2);
        Check.due("the other is not", other.login(1, 11, 0, false), NEXT + 2);
    }

    private static void lessThanTenLaterItIsLocked() {
        Check.about("Promise 11: locked until time is 10 more (less than 10 later it is locked)");
        for (int begin : new int[] {0, 1, 9, 10, 11, 100}) {
            for (int later : new int[] {0, 1, 5, 9, 10, 11, 20, 100}) {
                RequestGate gate = gate(1);
                if (begin > 0) {
                    gate.tick(begin);
                }
                wrongly(gate, 3, 3);
                if (later > 0) {
                    gate.tick(later);
                }
                Check.due(later + " later than " + begin, gate.login(3, 13, 0, false), later < 10 ? -2 : NEXT);
            }
        }
        RequestGate gate = gate(1);
        wrongly(gate, 3, 2);
        gate.tick(50);
        wrongly(gate, 3, 1);
        for (int later = 0; later < 10; later++) {
            Check.due("from the third one on, " + later + " later", gate.login(3, 13, 0, false), -2);
            gate.tick(1);
        }
        Check.due("10 later", gate.login(3, 13, 0, false), NEXT);
    }

    private static void rowBeginsAnewAfterALock() {
        Check.about("Promise 11: the user is locked .., and the row begins anew");
        RequestGate gate = gate(1);
        for (int locks = 1; locks <= 4; locks++) {
            wrongly(gate, 0, 2);
            Check.due("two more do not lock", gate.count(4), locks - 1);
            wrongly(gate, 0, 1);
            Check.due("three more do", gate.count(4), locks);
            gate.tick(9);
            Check.due("locked", gate.login(0, 10, 0, false), -2);
            gate.tick(1);
        }
        wrongly(gate, 0, 2);
        Check.due("two do not lock", gate.login(0, 10, 0, false), NEXT);
    }

    private static void rowBeginsAnewAfterALogin() {
        Check.about("Promise 11: Else the row begins anew");
        RequestGate gate = gate(1);
        for (int i = 0; i < 4; i++) {
            wrongly(gate, 0, 2);
            Check.due("right", gate.login(0, 10, 0, false), NEXT + 2 * i);
        }
        Check.due("never locked", gate.count(4), 0);
        wrongly(gate, 0, 3);
        Check.due("locked", gate.login(0, 10, 0, false), -2);
    }

    private static void triesWhenLockedChangeNothing() {
        Check.about("Promise 11: -2, refused: the lock is not made longer, and the row does not grow");
        RequestGate gate = gate(1);
        wrongly(gate, 0, 3);
        gate.tick(9);
        for (int i = 0; i < 4; i++) {
            Check.due("locked", gate.login(0, 9, 0, false), -2);
        }
        Check.due("locked once", gate.count(4), 1);
        gate.tick(1);
        wrongly(gate, 0, 2);
        Check.due("the row began when the lock ended", gate.login(0, 10, 0, false), NEXT);
    }

    private static void wrongPasswordChangesOnlyTheRow() {
        Check.about("Promise 11: If the hash .. is not the user's hash: -3");
        for (int scheme = 0; scheme < 2; scheme++) {
            RequestGate gate = gate(scheme);
            int session = gate.login(1, 11, 0, true);
            int drawn = gate.count(5);
            Check.due("wrong", gate.login(0, 11, session, true), -3);
            Check.due("wrong", gate.login(1, 10, session, true), -3);
            Check.due("none drawn", gate.count(5), drawn);
            sessions(gate, "none ended, none made", 1, session, -1);
            sessions(gate, "none ended, none made", 0, -1, -1);
            memory(gate, "none made", 0, -1, -1);
            memory(gate, "none ended, none made", 1, session + 2, -1);
            Check.due("the hash stays", gate.hash(0), Check.hash(10, scheme, 1));
        }
    }

    private static void whatHasTheSameHashIsGood() {
        Check.about("Promise 11: If the hash of the password .. is not the user's hash; .. and the hash is that of the password");
        int same = 1073807374;
        RequestGate gate = gate(0);
        Check.due("another password with the same hash", Check.hash(same, 0, 1), gate.hash(0));
        Check.due("is good", gate.login(0, same, 0, false), NEXT + 1);
        Check.due("and is kept from then on", gate.hash(0), Check.hash(same, 1, NEXT));
        Check.due("the first one is wrong now", gate.login(0, 10, 0, false), -3);
        Check.due("the other one is good", gate.login(0, same, 0, false), NEXT + 3);
        RequestGate old = new RequestGate();
        old.user(77, 0, 1);
        Check.due("by scheme 1", old.login(0, 928460657, 0, false), 2);
        Check.due("the hash stays", old.hash(0), Check.hash(77, 1, 1));
        Check.due("both are good", old.login(0, 77, 0, false), 4);
    }

    private static void schemeZeroBecomesOne() {
        Check.about("Promise 11: if the scheme is 0, it becomes 1, the salt is drawn anew, and the hash is that of the password");
        RequestGate gate = gate(0);
        for (int user = USERS - 1; user >= 0; user--) {
            int drawn = gate.count(5);
            Check.due("the salt is drawn first", gate.login(user, 10 + user, 0, false), drawn + 2);
            Check.due("hash", gate.hash(user), Check.hash(10 + user, 1, drawn + 1));
            Check.due("drawn", gate.count(5), drawn + 3);
            Check.due("only once", gate.login(user, 10 + user, 0, false), drawn + 4);
            Check.due("the hash stays", gate.hash(user), Check.hash(10 + user, 1, drawn + 1));
        }
        RequestGate one = gate(1);
        Check.due("scheme 1: no salt is drawn", one.login(0, 10, 0, false), NEXT);
        Check.due("the hash stays", one.hash(0), Check.hash(10, 1, 1));
    }

    private static void numbersOfALogin() {
        Check.about("Promise 11: its ID is drawn, then its token; .. a series of the user: its ID, then its token. The ID of the new session.");
        for (int scheme = 0; scheme < 2; scheme++) {
            int salt = scheme == 0 ? 1 : 0;
            RequestGate gate = gate(scheme);
            Check.due("ID", gate.login(5, 15, 0, true), NEXT + salt);
            Check.due("ID", gate.session(5, 0, 0), NEXT + salt);
            Check.due("token", gate.session(5, 0, 1), NEXT + salt + 1);
            Check.due("not remembered", gate.session(5, 0, 2), 0);
            Check.due("ID of the series", gate.series(5, 0, 0), NEXT + salt + 2);
            Check.due("token of the series", gate.series(5, 0, 1), NEXT + salt + 3);
            Check.due("drawn", gate.count(5), NEXT + salt + 3);
        }
    }

    private static void loginEndsALiveSession() {
        Check.about("Promise 11: the session with the ID session, if it is live (whoever's it is), is ended");
        for (int rest = 20; rest <= 21; rest++) {
            RequestGate gate = gate(1);
            int own = gate.login(0, 10, 0, false);
            int others = gate.login(1, 11, 0, true);
            gate.tick(rest);
            int later = gate.login(0, 10, own, false);
            sessions(gate, "one's own", 0, later, -1);
            gate.login(0, 10, others, false);
            sessions(gate, "another's", 1, -1, -1);
            memory(gate, "no series ends", 1, others + 2, -1);
        }
        RequestGate gate = gate(1);
        int a = gate.login(0, 10, 0, true);
        for (int none : new int[] {0, -1, a + 1, a + 2, a + 3, 1, LEAST, GREATEST}) {
            int b = gate.login(1, 11, none, false);
            sessions(gate, "none ends by " + none, 0, a, -1);
            gate.logout(b);
        }
        memory(gate, "no series ends by its ID or token", 0, a + 2, -1);
    }

    private static void loginDoesNotEndWhatItMakes() {
        Check.about("Promise 11: the session with the ID session .. is ended; a new session .. is made: before and then");
        for (int scheme = 0; scheme < 2; scheme++) {
            RequestGate gate = gate(scheme);
            int id = NEXT + (scheme == 0 ? 1 : 0);
            Check.due("the ID that is drawn next", gate.login(0, 10, id, true), id);
            sessions(gate, "it is live", 0, id, -1);
        }
    }

    private static void seriesOnlyIfRemembered() {
        Check.about("Promise 11: and if remember is true, a series of the user");
        RequestGate gate = gate(1);
        int session = gate.login(0, 10, 0, false);
        memory(gate, "no", 0, -1, -1);
        Check.due("drawn", gate.count(5), session + 1);
        session = gate.login(0, 10, 0, true);
        memory(gate, "yes", 0, session + 2, -1);
        Check.due("drawn", gate.count(5), session + 3);
    }

    private static void logoutEndsOneSessionAndAllSeries() {
        Check.about("Promise 12: Ends a live session, and all series of its user; false, refused, if there is no such session.");
        RequestGate gate = gate(1);
        int a = gate.login(5, 15, 0, true);
        int b = gate.login(5, 15, 0, true);
        int other = gate.login(4, 14, 0, true);
        for (int none : new int[] {0, -1, a + 1, a + 2, b + 3, other + 4, LEAST, GREATEST}) {
            Check.due("logout(" + none + ")", gate.logout(none), false);
        }
        memory(gate, "refused", 5, a + 2, b + 2);
        Check.due("logout", gate.logout(b), true);
        sessions(gate, "one ended", 5, a, -1);
        memory(gate, "all series ended", 5, -1, -1);
        sessions(gate, "another's stays", 4, other, -1);
        memory(gate, "another's stays", 4, other + 2, -1);
        Check.due("again", gate.logout(b), false);
        Check.due("one without a series", gate.logout(a), true);
        sessions(gate, "both ended", 5, -1, -1);
        Check.due("the next number", gate.login(5, 15, 0, false), other + 4);
    }

    private static void methodsAreZeroToThree() {
        Check.about("Promise 13: -1, refused (the buffer stays), if method is not 0 .. 3");
        RequestGate gate = gate(1);
        int session = gate.login(0, 10, 0, false);
        for (int method = -2; method <= 5; method++) {
            boolean good = method >= 0 && method <= 3;
            Check.due("method " + method, Check.open(gate, "/", method, session, session + 1), good ? 200 : -1);
            Check.due("the buffer", gate.fits(0), good ? -2 : 1);
            Check.due("close", gate.close(), good);
        }
        Check.due("a wrong method and a bad path", Check.open(gate, "//", 4, session, session + 1), -1);
        Check.due("the buffer stays", gate.fits(0), -2);
        gate.clear();
        gate.type('/');
        Check.due("and can be cleared", gate.fits(0), 1);
    }

    private static void aRequestIsOpen() {
        Check.about("Promise 13: -1, refused (the buffer stays), if .. a request is open");
        RequestGate gate = gate(1);
        int session = gate.login(0, 10, 0, false);
        for (int asking : new int[] {0, session}) {
            Check.due("open", Check.get(gate, "/", asking), 200);
            for (int method = 0; method < 4; method++) {
                Check.due("a second one", Check.open(gate, "/", method, session, session + 1), -1);
                Check.due("the buffer stays", gate.fits(0), 1);
                Check.due("with a bad path", Check.open(gate, "a", method, session, session + 1), -1);
            }
            Check.due("still the first one's subject", gate.who(), asking == 0 ? -1 : 0);
            Check.due("close", gate.close(), true);
        }
        for (String path : new String[] {"/known", "/none", "//"}) {
            int answer = Check.get(gate, path, 0);
            Check.due("what was not opened is not open", answer == 200 || answer == -1, false);
            Check.due("not open", gate.close(), false);
        }
        Check.due("opened", gate.count(0), 2);
    }

    private static void badPathGoesBeforeWhoAsks() {
        Check.about("Promise 13: If the path is bad: 400. Then who asks");
        for (int method = 0; method < 4; method++) {
            RequestGate gate = gate(1);
            int session = gate.login(0, 10, 0, true);
            gate.tick(20);
            int drawn = gate.count(5);
            Check.due("by a session", Check.open(gate, "/a//b", method, session, session + 1), 400);
            Check.due("the buffer becomes empty", gate.type('/') && gate.fits(0) == 1, true);
            Check.due("by a series", Check.open(gate, "/..", method, 0, 0, session + 2, session + 3), 400);
            Check.due("by a wrong token", Check.open(gate, "/%", method, 0, 0, session + 2, 0), 400);
            Check.due("by nobody", Check.open(gate, "", method, 0, 0), 400);
            Check.due("none drawn", gate.count(5), drawn);
            counts(gate, "none opened, no theft", 0, 0, 0, 0);
            memory(gate, "no series ended", 0, session + 2, -1);
            gate.tick(1);
            sessions(gate, "the session was not used", 0, -1, -1);
        }
    }

    private static void sessionWasLastUsedNow() {
        Check.about("Promise 13: if the session .. is live, its user, remembered if it is, and it was last used now");
        String[] paths = {"/", "/known", "/none", "/"};
        int[] methods = {0, 1, 0, 2};
        int[] answers = {200, 201, 403, 419};
        for (int i = 0; i < paths.length; i++) {
            RequestGate gate = gate(1);
            int session = gate.login(5, 15, 0, false);
            gate.tick(20);
            Check.due(paths[i], Check.open(gate, paths[i], methods[i], session, 0), answers[i]);
            Check.due("who", gate.who(), answers[i] < 300 ? 5 : -1);
            gate.close();
            gate.tick(20);
            sessions(gate, "used whatever the answer was", 5, session, -1);
            gate.tick(1);
            sessions(gate, "not later", 5, -1, -1);
        }
    }

    private static void seriesWithItsToken() {
        Check.about("Promise 13: else, if there is a series with the ID series and its token is token, its user, remembered: "
                + "the series' token is drawn anew, and a new session of the user, remembered, is made (ID, then token)");
        String[] paths = {"/", "/known", "/none", "/"};
        int[] methods = {0, 1, 0, 3};
        int[] answers = {200, 201, 403, 419};
        for (int i = 0; i < paths.length; i++) {
            RequestGate gate = gate(1);
            int series = gate.login(5, 15, 0, true) + 2;
            gate.logout(gate.login(4, 14, 0, false));
            gate.tick(21);
            int drawn = gate.count(5);
            Check.due(paths[i], Check.open(gate, paths[i], methods[i], 0, 0, series, series + 1), answers[i]);
            Check.due("who", gate.who(), answers[i] < 300 ? 13 : -1);
            Check.due("the series' ID stays", gate.series(5, 0, 0), series);
            Check.due("the series' token is drawn anew", gate.series(5, 0, 1), drawn + 1);
            Check.due("ID", gate.session(5, 0, 0), drawn + 2);
            Check.due("token", gate.session(5, 0, 1), drawn + 3);
            Check.due("remembered", gate.session(5, 0, 2), 1);
            Check.due("drawn", gate.count(5), drawn + 3);
            Check.due("no theft", gate.count(3), 0);
        }
    }

    private static void seriesWithAnotherToken() {
        Check.about("Promise 13: .. with another token, it is a THEFT: all series and all sessions of its user are ended, and there is no subject");
        for (int wrong : new int[] {0, -1, -2, 1, 2, LEAST, GREATEST}) {
            RequestGate gate = gate(1);
            int a = gate.login(5, 15, 0, true);
            int b = gate.login(5, 15, 0, true);
            int other = gate.login(4, 14, 0, true);
            int token = wrong >= -2 && wrong <= 2 && wrong != 0 ? a + 3 + wrong : wrong;
            int drawn = gate.count(5);
            Check.due("known ones only", Check.open(gate, "/known", 0, 0, 0, a + 2, token), 401);
            Check.due("a theft", gate.count(3), 1);
            sessions(gate, "all ended", 5, -1, -1);
            memory(gate, "all ended", 5, -1, -1);
            sessions(gate, "another's stays", 4, other, -1);
            memory(gate, "another's stays", 4, other + 2, -1);
            Check.due("the other series is none more", Check.open(gate, "/", 0, 0, 0, b + 2, b + 3), 200);
            Check.due("no subject", gate.who(), -1);
            gate.close();
            Check.due("no second theft", gate.count(3), 1);
            Check.due("none drawn", gate.count(5), drawn);
            Check.due("the user may log in again", gate.login(5, 15, 0, true), drawn + 1);
        }
        RequestGate gate = gate(1);
        int series = gate.login(0, 10, 0, true) + 2;
        Check.due("open for nobody", Check.open(gate, "/", 0, 0, 0, series, 0), 200);
        Check.due("no subject", gate.who(), -1);
        Check.due("all ended", gate.session(0, 0, 0), -1);
    }

    private static void noSuchSeries() {
        Check.about("Promise 13: else there is none");
        RequestGate gate = gate(1);
        int a = gate.login(0, 10, 0, true);
        for (int none : new int[] {0, -1, 1, a, a + 1, a + 3, a + 4, LEAST, GREATEST}) {
            Check.due("series " + none, Check.open(gate, "/", 0, 0, 0, none, a + 3), 200);
            Check.due("no subject", gate.who(), -1);
            gate.close();
        }
        Check.due("no theft", gate.count(3), 0);
        Check.due("none drawn", gate.count(5), a + 3);
        sessions(gate, "stays", 0, a, -1);
        memory(gate, "stays", 0, a + 2, -1);
    }

    private static void unsafeNeedsTheToken() {
        Check.about("Promise 13: Then, if the method is unsafe: 419 unless the first of these cases held and secret is that session's token");
        for (int method = 0; method < 4; method++) {
            boolean unsafe = method >= 2;
            RequestGate gate = gate(1);
            int a = gate.login(0, 10, 0, true);
            int b = gate.login(0, 10, 0, false);
            int no = unsafe ? 419 : 200;
            for (int secret : new int[] {0, -1, a, a + 2, a + 3, b, b + 1, LEAST, GREATEST}) {
                Check.due("secret " + secret, Check.open(gate, "/", method, a, secret), no);
                Check.due("open", gate.close(), !unsafe);
            }
            Check.due("the token", Check.open(gate, "/", method, a, a + 1), 200);
            gate.close();
            Check.due("the other's", Check.open(gate, "/", method, b, b + 1), 200);
            gate.close();
            Check.due("a token without a session", Check.open(gate, "/", method, 0, a + 1), no);
            gate.close();
            int drawn = gate.count(5);
            Check.due("by a series", Check.open(gate, "/", method, 0, drawn + 3, a + 2, a + 3), no);
            gate.close();
            Check.due("by the session that it made", Check.open(gate, "/", method, drawn + 2, drawn + 3), 200);
            Check.due("remembered", gate.who(), 8);
        }
    }

    private static void unsafeGoesBeforeTheRules() {
        Check.about("Promise 13: 419 .. Then the first rule");
        RequestGate gate = gate(1);
        int session = gate.login(0, 10, 0, false);
        for (int method = 2; method <= 3; method++) {
            Check.due("no rule, no secret", Check.open(gate, "/none", method, session, 0), 419);
            Check.due("no rule, the secret", Check.open(gate, "/none", method, session, session + 1), 403);
            Check.due("known ones only, nobody", Check.open(gate, "/known", method, 0, 0), 419);
            Check.due("known ones only", Check.open(gate, "/known", method, session, session + 1), 201);
            gate.close();
        }
        Check.due("no rule, nobody, safe", Check.get(gate, "/none", 0), 403);
    }

    private static void firstRuleWithTheMethod() {
        Check.about("Promise 13: Then the first rule with the method, whose pattern fits: if there is none, 403; .. 200 + the number of the rule");
        RequestGate gate = new RequestGate();
        gate.expression(0, 0, 0);
        gate.expression(1, 0, 0);
        Check.due("no rule at all", Check.get(gate, "/", 0), 403);
        Check.rule(gate, "/a", 0, 2);
        Check.rule(gate, "/b", 0, 1);
        Check.rule(gate, "/a", 1, 1);
        Check.rule(gate, "/a", 0, 1);
        Check.rule(gate, "/c", 0, 14);
        Check.rule(gate, "/d/**", 0, 1);
        Check.rule(gate, "/e", 0, 1);
        Check.rule(gate, "/*", 0, 3);
        Check.due("the first one with GET decides", Check.get(gate, "/a", 0), 401);
        Check.due("the first one with HEAD", Check.open(gate, "/a", 1, 0, 0), 200);
        gate.close();
        Check.due("the second one", Check.get(gate, "/b", 0), 201);
        gate.close();
        Check.due("the first ones are without GET or do not fit", Check.get(gate, "/c", 0), 207);
        gate.close();
        Check.due("the sixth one", Check.get(gate, "/d", 0), 205);
        gate.close();
        Check.due("the last one", Check.get(gate, "/f", 0), 207);
        gate.close();
        Check.due("none fits", Check.get(gate, "/f/g", 0), 403);
        Check.due("opened", gate.count(0), 5);
    }

    private static void argumentIsTheNumberOfSegments() {
        Check.about("Promise 13: TRUE for the subject and the number of segments that the path has when it is plain");
        for (int n = 0; n <= 20; n++) {
            String path = n == 0 ? "/" : "/a".repeat(n);
            for (int below = n; below <= n + 1; below++) {
                RequestGate gate = new RequestGate();
                gate.expression(8, below, 0);
                Check.rule(gate, "/**", 0, 15);
                Check.due(n + " segments, BELOW " + below, Check.get(gate, path, 0), below > n ? 200 : 401);
            }
        }
        RequestGate gate = new RequestGate();
        gate.expression(9, 1, 2);
        gate.expression(4, 0, 0);
        Check.rule(gate, "/**", 0, 1);
        Check.rule(gate, "/**", 1, 2);
        String[] paths = {"/", "/a/..", "/a", "/a/./b/", "/a/b/c", "/a/b/c/.."};
        int[] answers = {401, 401, 200, 200, 401, 200};
        int[] denied = {401, 401, 401, 401, 201, 401};
        for (int i = 0; i < paths.length; i++) {
            Check.due("2 / segments >= 1: " + paths[i], Check.get(gate, paths[i], 0), answers[i]);
            gate.close();
            Check.due("NOT: " + paths[i], Check.open(gate, paths[i], 1, 0, 0), denied[i]);
            gate.close();
        }
    }

    private static void anythingButTrueIsNo() {
        Check.about("Promise 13: Otherwise 401 if there is no subject, 403 if there is one.");
        RequestGate gate = new RequestGate();
        gate.expression(8, 0, 0);
        gate.expression(9, 0, 0);
        Check.rule(gate, "/", 1, 15);
        Check.rule(gate, "/a", 0, 15);
        gate.user(1, 255, 1);
        int session = gate.login(0, 1, 0, true);
        Check.due("ERROR, nobody", Check.get(gate, "/", 0), 401);
        Check.due("FALSE, nobody", Check.get(gate, "/a", 0), 401);
        Check.due("ERROR, a user", Check.get(gate, "/", session), 403);
        Check.due("FALSE, a user", Check.get(gate, "/a", session), 403);
        Check.due("FALSE, a user, unsafe", Check.open(gate, "/a", 2, session, session + 1), 403);
        Check.due("FALSE, remembered", Check.open(gate, "/a", 0, 0, 0, session + 2, session + 3), 403);
        Check.due("FALSE, after a theft", Check.open(gate, "/a", 0, 0, 0, session + 2, session + 3), 401);
        Check.due("none is open", gate.close(), false);
        Check.due("none was opened", gate.count(0), 0);
    }

    private static void callsNeedAnOperationThatIsFound() {
        Check.about("Promise 14: -1, refused, if there is no such type, operation is not 0 .. 3, or it is not found");
        RequestGate gate = new RequestGate();
        gate.service(-1, -1, -1);
        gate.service(0, -1, -1);
        gate.service(-1, 0, -1);
        gate.declare(0, 0, -1);
        gate.declare(1, 3, -1);
        int[][] due = {{1, -1, -1, -1}, {1, -1, -1, 1}, {-1, -1, -1, -1}};
        int ran = 0;
        for (int type = -2; type <= 4; type++) {
            for (int operation = -2; operation <= 5; operation++) {
                boolean there = type >= 0 && type < 3 && operation >= 0 && operation < 4;
                int answer = there ? due[type][operation] : -1;
                Check.due("call(" + type + ", " + operation + ")", gate.call(type, operation, 0), answer);
                ran += answer == 1 ? 1 : 0;
            }
        }
        for (int n : new int[] {LEAST, GREATEST}) {
            Check.due("type " + n, gate.call(n, 0, 0), -1);
            Check.due("operation " + n, gate.call(0, n, 0), -1);
        }
        Check.due("bodies that ran", gate.count(1), ran);
        Check.due("what is refused is no body", gate.count(2), 0);
    }

    private static void callsWithoutARequestHaveNoSubject() {
        Check.about("Promise 14: with the subject of the open request (none, if none is open)");
        RequestGate gate = gate(1);
        gate.service(-1, -1, 1);
        gate.declare(0, 0, -1);
        int session = gate.login(5, 15, 0, false);
        Check.due("before", gate.call(0, 0, 5), 0);
        Check.get(gate, "/", 0);
        Check.due("open for nobody", gate.call(0, 0, 5), 0);
        gate.close();
        Check.get(gate, "/none", session);
        Check.due("not opened", gate.call(0, 0, 5), 0);
        Check.get(gate, "/", session);
        Check.due("open for a user", gate.call(0, 0, 5), 1);
        gate.tick(100);
        Check.due("though the session is dead", gate.call(0, 0, 5), 1);
        gate.close();
        Check.due("closed", gate.call(0, 0, 5), 0);
    }

    private static void bodiesRunOrDoNot() {
        Check.about("Its BODY runs for a subject and an argument if there is no guard or that is TRUE.");
        int[] edges = {LEAST, LEAST + 1, -2, -1, 0, 1, 2, GREATEST - 1, GREATEST};
        for (int a : edges) {
            for (int b : edges) {
                RequestGate gate = new RequestGate();
                gate.expression(8, a, b);
                gate.expression(9, a, b);
                gate.expression(4, 1, 0);
                gate.service(-1, -1, -1);
                for (int operation = 0; operation < 4; operation++) {
                    gate.declare(0, operation, operation < 3 ? operation : -1);
                }
                for (int argument : edges) {
                    boolean error = argument == 0;
                    // The quotient as a long, cut to an int: the least one by -1 wraps.
                    boolean share = !error && (int) ((long) b / argument) >= a;
                    String text = " " + a + ", " + b + " for " + argument;
                    Check.due("BELOW" + text, gate.call(0, 0, argument), argument < a ? 1 : 0);
                    Check.due("SHARE" + text, gate.call(0, 1, argument), share ? 1 : 0);
                    Check.due("NOT SHARE" + text, gate.call(0, 2, argument), error || share ? 0 : 1);
                    Check.due("no guard" + text, gate.call(0, 3, argument), 1);
                }
            }
        }
    }

    private static void closeEndsTheRequest() {
        Check.about("Promise 15: The open request ends; false if none is open.");
        RequestGate gate = gate(1);
        Check.due("none is open", gate.close(), false);
        for (int i = 0; i < 3; i++) {
            Check.get(gate, "/", 0);
            Check.due("one is open", gate.close(), true);
            Check.due("none is open", gate.close(), false);
        }
        Check.due("closing does not count", gate.count(0), 3);
    }

    private static void whoTellsTheSubject() {
        Check.about("Promise 16: the user's number, + 8 if remembered; -1 if there is none, or no request is open");
        RequestGate gate = gate(1);
        for (int user = 0; user < USERS; user++) {
            int session = gate.login(user, 10 + user, 0, true);
            Check.due("no request", gate.who(), -1);
            Check.get(gate, "/", session);
            Check.due("a user", gate.who(), user);
            gate.close();
            Check.due("closed", gate.who(), -1);
            Check.open(gate, "/", 0, 0, 0, session + 2, session + 3);
            Check.due("remembered", gate.who(), user + 8);
            gate.close();
            Check.get(gate, "/", gate.session(user, 1, 0));
            Check.due("by a session that is remembered", gate.who(), user + 8);
            gate.close();
            Check.get(gate, "/", 0);
            Check.due("nobody", gate.who(), -1);
            gate.close();
        }
    }

    private static void fitsTellsOfEachRule() {
        Check.about("Promise 17: 1 or 0; -1 if there is no such rule, -2 if the path is bad. The buffer stays.");
        for (int there = 0; there <= 8; there++) {
            RequestGate gate = new RequestGate();
            gate.expression(0, 0, 0);
            for (int i = 0; i < there; i++) {
                Check.rule(gate, i % 2 == 0 ? "/a" : "/b", 0, 1);
            }
            for (String path : new String[] {"/a", "/a//"}) {
                Check.write(gate, path);
                for (int rule : new int[] {-1, there, 8, 9, LEAST, GREATEST}) {
                    Check.due("rule " + rule + " of " + there, gate.fits(rule), -1);
                }
                for (int rule = 0; rule < there; rule++) {
                    int due = path.equals("/a") ? 1 - rule % 2 : -2;
                    Check.due("rule " + rule + " of " + there, gate.fits(rule), due);
                    Check.due("the buffer stays", gate.fits(rule), due);
                }
            }
        }
    }

    private static void sessionTellsThreeThings() {
        Check.about("Promise 18: the i-th (0 or 1, by rising IDs) .. -1 if there is no such user, session or what");
        RequestGate gate = gate(1);
        int a = gate.login(5, 15, 0, true);
        Check.open(gate, "/", 0, 0, 0, a + 2, a + 3);
        gate.close();
        gate.tick(1);
        Check.get(gate, "/", a);
        int[][] due = {{a, a + 1, 0}, {a + 5, a + 6, 1}};
        for (int i = -2; i <= 3; i++) {
            for (int what = -2; what <= 4; what++) {
                boolean there = i >= 0 && i <= 1 && what >= 0 && what <= 2;
                Check.due("session(5, " + i + ", " + what + ")", gate.session(5, i, what), there ? due[i][what] : -1);
                for (int user : new int[] {-1, 0, 4, 6}) {
                    Check.due("session(" + user + ", " + i + ", " + what + ")", gate.session(user, i, what), -1);
                }
            }
        }
        for (int n : new int[] {LEAST, GREATEST}) {
            Check.due("user " + n, gate.session(n, 0, 0), -1);
            Check.due("place " + n, gate.session(5, n, 0), -1);
            Check.due("what " + n, gate.session(5, 0, n), -1);
        }
    }

    private static void seriesTellsTwoThings() {
        Check.about("Promise 19: the i-th (0 the older one) .. -1 if there is no such user, series or what");
        RequestGate gate = gate(1);
        int a = gate.login(5, 15, 0, true);
        int b = gate.login(5, 15, 0, true);
        Check.open(gate, "/", 0, 0, 0, a + 2, a + 3);
        int[][] due = {{a + 2, b + 4}, {b + 2, b + 3}};
        for (int i = -2; i <= 3; i++) {
            for (int what = -2; what <= 4; what++) {
                boolean there = i >= 0 && i <= 1 && what >= 0 && what <= 1;
                Check.due("series(5, " + i + ", " + what + ")", gate.series(5, i, what), there ? due[i][what] : -1);
                for (int user : new int[] {-1, 0, 4, 6}) {
                    Check.due("series(" + user + ", " + i + ", " + what + ")", gate.series(user, i, what), -1);
                }
            }
        }
        for (int n : new int[] {LEAST, GREATEST}) {
            Check.due("user " + n, gate.series(n, 0, 0), -1);
            Check.due("place " + n, gate.series(5, n, 0), -1);
            Check.due("what " + n, gate.series(5, 0, n), -1);
        }
    }

    private static void countsTellSevenThings() {
        Check.about("Promise 21: -1 for another kind");
        RequestGate gate = gate(1);
        for (int kind = -3; kind <= 9; kind++) {
            Check.due("count(" + kind + ")", gate.count(kind), kind < 0 || kind > 6 ? -1 : kind == 5 ? USERS : 0);
        }
        Check.due("count(least)", gate.count(LEAST), -1);
        Check.due("count(greatest)", gate.count(GREATEST), -1);
    }

    private static void eachCountGrowsByItsOwn() {
        Check.about("Promise 21: So far, kind 0: requests that were opened; 1: bodies that ran; 2: bodies that did not run when called; "
                + "3: thefts; 4: how often a user was locked; 5: numbers drawn; 6: time");
        RequestGate gate = gate(1);
        gate.service(-1, -1, -1);
        gate.declare(0, 0, 0);
        gate.declare(0, 1, 1);
        counts(gate, "at first", 0, 0, 0, 0, 0, 6, 0);
        Check.get(gate, "/", 0);
        gate.close();
        counts(gate, "opened", 1, 0, 0, 0, 0, 6, 0);
        Check.get(gate, "/known", 0);
        counts(gate, "not opened", 1, 0, 0, 0, 0, 6, 0);
        gate.call(0, 0, 0);
        counts(gate, "a body that ran", 1, 1, 0, 0, 0, 6, 0);
        gate.call(0, 1, 0);
        counts(gate, "a body that did not run", 1, 1, 1, 0, 0, 6, 0);
        gate.call(0, 2, 0);
        counts(gate, "no body", 1, 1, 1, 0, 0, 6, 0);
        int series = gate.login(0, 10, 0, true) + 2;
        counts(gate, "a login", 1, 1, 1, 0, 0, 10, 0);
        Check.open(gate, "/known", 0, 0, 0, series, 0);
        counts(gate, "a theft", 1, 1, 1, 1, 0, 10, 0);
        Check.open(gate, "/known", 0, 0, 0, series, 0);
        counts(gate, "none more", 1, 1, 1, 1, 0, 10, 0);
        wrongly(gate, 0, 2);
        counts(gate, "not locked", 1, 1, 1, 1, 0, 10, 0);
        wrongly(gate, 0, 1);
        counts(gate, "locked", 1, 1, 1, 1, 1, 10, 0);
        gate.login(0, 9, 0, false);
        counts(gate, "still locked", 1, 1, 1, 1, 1, 10, 0);
        gate.tick(100);
        counts(gate, "time", 1, 1, 1, 1, 1, 10, 100);
        gate.tick(101);
        counts(gate, "no time", 1, 1, 1, 1, 1, 10, 100);
    }

    private static void fiveHundredAndTwelveCalls() {
        Check.about("An object is used for at most 512 calls after it has been made");
        RequestGate gate = new RequestGate();
        gate.user(1, 0, 0);
        for (int i = 1; i < 511; i++) {
            Check.due("login " + i, gate.login(0, 1, i % 3 == 0 ? 4 * i - 4 : 0, true), 4 * i - 1);
        }
        Check.due("numbers drawn", gate.count(5), 2 + 4 * 510);
        RequestGate ticking = new RequestGate();
        for (int i = 0; i < 511; i++) {
            ticking.tick(100);
        }
        Check.due("time", ticking.count(6), 51100);
    }
}
