/** The terms: when a session is live, which one is ended before a third is made, and the same of series. */
public final class LiveTest {
    private static final int USERS = 3;

    public static void main(String[] args) {
        restsAtMostTwenty();
        isAtMostSixtyOld();
        oldAndRestedAtOnce();
        rememberedOnesDieAlike();
        livesUntilItIsEnded();
        deadIsNotShown();
        deadIsNotLoggedOut();
        deadIsNotEndedByLogin();
        deadAsksForNobody();
        deadProvesNothing();
        deadTakesNoPlace();
        atMostTwoOfEachUser();
        longestUnusedEnds();
        ofSeveralTheLeastIdEnds();
        thirdBySeriesEndsOneToo();
        endedByLoginMakesRoom();
        olderSeriesEnds();
        twoSeriesOfEachUser();
        seriesDoNotAge();
        Check.end();
    }

    /** Rule 0 lets all through; the salts of the users are 1 to 3, so that the first ID is 4. */
    private static RequestGate gateAt(int time) {
        RequestGate gate = new RequestGate();
        gate.expression(0, 0, 0);
        Check.rule(gate, "/", 0, 15);
        for (int i = 0; i < USERS; i++) {
            gate.user(10 + i, 0, 1);
        }
        pass(gate, time);
        return gate;
    }

    private static void pass(RequestGate gate, int time) {
        for (int left = time; left > 0; left -= 100) {
            gate.tick(Math.min(left, 100));
        }
    }

    private static int login(RequestGate gate, int user) {
        return gate.login(user, 10 + user, 0, false);
    }

    private static int loginWithSeries(RequestGate gate, int user) {
        return gate.login(user, 10 + user, 0, true) + 2;
    }

    /** Who asks with these, as who() tells it. */
    private static int asking(RequestGate gate, int session, int series, int token) {
        Check.due("open", Check.open(gate, "/", 0, session, 0, series, token), 200);
        int who = gate.who();
        gate.close();
        return who;
    }

    private static void use(RequestGate gate, int session, int who) {
        Check.due("who asks with session " + session, asking(gate, session, 0, 0), who);
    }

    private static void sessions(RequestGate gate, String text, int user, int first, int second) {
        Check.due(text + ": first session of " + user, gate.session(user, 0, 0), first);
        Check.due(text + ": second session of " + user, gate.session(user, 1, 0), second);
    }

    private static void memory(RequestGate gate, String text, int user, int first, int second) {
        Check.due(text + ": older series of " + user, gate.series(user, 0, 0), first);
        Check.due(text + ": newer series of " + user, gate.series(user, 1, 0), second);
    }

    private static void restsAtMostTwenty() {
        Check.about("LIVE .. as long as it was .. last used at most 20 ago");
        for (int begin : new int[] {0, 1, 19, 20, 21, 59, 60, 61, 1000}) {
            for (int rest : new int[] {0, 1, 19, 20, 21, 22, 59, 60, 61, 100, 300}) {
                RequestGate gate = gateAt(begin);
                int id = login(gate, 1);
                pass(gate, rest);
                sessions(gate, "rested " + rest + " from " + begin, 1, rest <= 20 ? id : -1, -1);
                use(gate, id, rest <= 20 ? 1 : -1);
            }
        }
        RequestGate gate = gateAt(0);
        int id = login(gate, 0);
        for (int rest = 1; rest <= 22; rest++) {
            gate.tick(1);
            sessions(gate, "rested " + rest + " by ones", 0, rest <= 20 ? id : -1, -1);
        }
    }

    private static void isAtMostSixtyOld() {
        Check.about("LIVE .. as long as it was made at most 60 .. ago");
        for (int begin : new int[] {0, 3, 500}) {
            for (int step : new int[] {1, 7, 10, 20}) {
                RequestGate gate = gateAt(begin);
                int id = login(gate, 0);
                int oldest = step == 1 ? 61 : 80;
                for (int age = step; age <= oldest; age += step) {
                    gate.tick(step);
                    sessions(gate, age + " old, used each " + step, 0, age <= 60 ? id : -1, -1);
                    use(gate, id, age <= 60 ? 0 : -1);
                }
            }
        }
    }

    private static void oldAndRestedAtOnce() {
        Check.about("LIVE .. as long as it was made at most 60 and last used at most 20 ago");
        for (int lastUse = 39; lastUse <= 60; lastUse++) {
            RequestGate gate = gateAt(0);
            int id = login(gate, 0);
            gate.tick(20);
            use(gate, id, 0);
            gate.tick(lastUse - 20 > 20 ? 20 : lastUse - 20);
            use(gate, id, 0);
            pass(gate, lastUse - gate.count(6));
            use(gate, id, 0);
            pass(gate, 60 - gate.count(6));
            sessions(gate, "60 old, used at " + lastUse, 0, lastUse >= 40 ? id : -1, -1);
            gate.tick(1);
            sessions(gate, "61 old, used at " + lastUse, 0, -1, -1);
        }
    }

    private static void rememberedOnesDieAlike() {
        Check.about("SESSIONS .. REMEMBERED or not .. LIVE .. at most 60 .. at most 20 ago");
        for (int rest = 19; rest <= 22; rest++) {
            RequestGate gate = gateAt(5);
            int series = loginWithSeries(gate, 0);
            gate.tick(21);
            Check.due("remembered", asking(gate, 0, series, series + 1), 8);
            int id = gate.session(0, 0, 0);
            gate.tick(rest);
            sessions(gate, "remembered, rested " + rest, 0, rest <= 20 ? id : -1, -1);
        }
        RequestGate gate = gateAt(5);
        int series = loginWithSeries(gate, 0);
        gate.tick(21);
        asking(gate, 0, series, series + 1);
        int id = gate.session(0, 0, 0);
        for (int age = 15; age <= 75; age += 15) {
            gate.tick(15);
            use(gate, id, age <= 60 ? 8 : -1);
        }
    }

    private static void livesUntilItIsEnded() {
        Check.about("It is LIVE until it is ended");
        RequestGate gate = gateAt(0);
        int first = login(gate, 0);
        int second = login(gate, 0);
        sessions(gate, "both live", 0, first, second);
        gate.logout(first);
        sessions(gate, "one ended", 0, second, -1);
        use(gate, first, -1);
        use(gate, second, 0);
        gate.login(1, 11, second, false);
        sessions(gate, "both ended", 0, -1, -1);
        use(gate, second, -1);
    }

    private static void deadIsNotShown() {
        Check.about("one that is not live is as if it were not there: session()");
        RequestGate gate = gateAt(0);
        int first = login(gate, 0);
        gate.tick(10);
        int second = login(gate, 0);
        gate.tick(10);
        sessions(gate, "both live", 0, first, second);
        gate.tick(1);
        sessions(gate, "the second comes to the first place", 0, second, -1);
        Check.due("with its token", gate.session(0, 0, 1), second + 1);
        Check.due("not remembered", gate.session(0, 0, 2), 0);
        Check.due("no token of another", gate.session(0, 1, 1), -1);
        Check.due("nor whether it is remembered", gate.session(0, 1, 2), -1);
    }

    private static void deadIsNotLoggedOut() {
        Check.about("one that is not live is as if it were not there: logout()");
        for (int rest = 20; rest <= 21; rest++) {
            RequestGate gate = gateAt(0);
            int series = loginWithSeries(gate, 0);
            gate.tick(rest);
            Check.due("rested " + rest, gate.logout(series - 2), rest == 20);
            memory(gate, "series", 0, rest == 20 ? -1 : series, -1);
        }
    }

    private static void deadIsNotEndedByLogin() {
        Check.about("one that is not live is as if it were not there: login()");
        RequestGate gate = gateAt(0);
        int dead = login(gate, 0);
        gate.tick(21);
        int first = login(gate, 0);
        gate.tick(1);
        int second = gate.login(0, 10, dead, false);
        sessions(gate, "the dead one was given", 0, first, second);
        int third = gate.login(0, 10, dead, false);
        sessions(gate, "it makes no room", 0, second, third);
    }

    private static void deadAsksForNobody() {
        Check.about("one that is not live is as if it were not there: open()");
        RequestGate gate = gateAt(0);
        int series = loginWithSeries(gate, 2);
        int dead = series - 2;
        gate.tick(21);
        use(gate, dead, -1);
        sessions(gate, "asking brings it not back", 2, -1, -1);
        int drawn = gate.count(5);
        Check.due("the series is asked", asking(gate, dead, series, series + 1), 10);
        sessions(gate, "a new one is made", 2, drawn + 2, -1);
        gate.tick(21);
        Check.due("a wrong token is a theft", asking(gate, drawn + 2, series, series + 1), -1);
        Check.due("thefts", gate.count(3), 1);
    }

    private static void deadProvesNothing() {
        Check.about("one that is not live is as if it were not there: an unsafe method");
        for (int method = 2; method <= 3; method++) {
            for (int rest = 20; rest <= 21; rest++) {
                RequestGate gate = gateAt(0);
                int id = login(gate, 0);
                gate.tick(rest);
                Check.due("rested " + rest, Check.open(gate, "/", method, id, id + 1), rest == 20 ? 200 : 419);
            }
        }
    }

    private static void deadTakesNoPlace() {
        Check.about("A user has at most two live ones: a dead one does not count");
        for (int rest = 20; rest <= 21; rest++) {
            RequestGate gate = gateAt(0);
            int first = login(gate, 0);
            gate.tick(rest - 1);
            int second = login(gate, 0);
            gate.tick(1);
            int third = login(gate, 0);
            sessions(gate, "the first rested " + rest, 0, second, third);
            Check.due("the second", gate.logout(second), true);
            Check.due("the first", gate.logout(first), false);
        }
        RequestGate gate = gateAt(0);
        login(gate, 0);
        login(gate, 0);
        gate.tick(21);
        int first = login(gate, 0);
        sessions(gate, "two dead", 0, first, -1);
        int second = login(gate, 0);
        sessions(gate, "two dead, two live", 0, first, second);
        int third = login(gate, 0);
        sessions(gate, "a third live one", 0, second, third);
    }

    private static void atMostTwoOfEachUser() {
        Check.about("A user has at most two live ones");
        RequestGate gate = gateAt(0);
        int[] ids = new int[4 * USERS];
        for (int i = 0; i < ids.length; i++) {
            ids[i] = login(gate, i % USERS);
        }
        for (int user = 0; user < USERS; user++) {
            sessions(gate, "the last two", user, ids[2 * USERS + user], ids[3 * USERS + user]);
            Check.due("no third place", gate.session(user, 2, 0), -1);
            use(gate, ids[user], -1);
            use(gate, ids[USERS + user], -1);
        }
    }

    private static void longestUnusedEnds() {
        Check.about("before a third is made that which was last used longest ago .. is ended");
        for (int later = 0; later < 2; later++) {
            for (int gap = 0; gap < 3; gap++) {
                RequestGate gate = gateAt(0);
                int[] ids = {login(gate, 0), login(gate, 0)};
                gate.tick(1);
                use(gate, ids[1 - later], 0);
                pass(gate, gap);
                use(gate, ids[later], 0);
                int third = login(gate, 0);
                int stays = gap == 0 ? ids[1] : ids[later];
                sessions(gate, "the other used " + gap + " later", 0, stays, third);
            }
        }
        RequestGate gate = gateAt(0);
        int old = login(gate, 0);
        gate.tick(5);
        int young = login(gate, 0);
        gate.tick(1);
        use(gate, old, 0);
        int third = login(gate, 0);
        sessions(gate, "made longer ago but used later", 0, old, third);
        use(gate, young, -1);
    }

    private static void ofSeveralTheLeastIdEnds() {
        Check.about("of several the one with the least ID");
        RequestGate gate = gateAt(0);
        int first = login(gate, 0);
        int second = login(gate, 0);
        gate.tick(2);
        use(gate, second, 0);
        use(gate, first, 0);
        int third = login(gate, 0);
        sessions(gate, "used at the same time, the least one last", 0, second, third);
        int fourth = login(gate, 0);
        sessions(gate, "used and made at the same time", 0, third, fourth);
        gate.tick(1);
        use(gate, fourth, 0);
        use(gate, third, 0);
        int fifth = login(gate, 0);
        sessions(gate, "again", 0, fourth, fifth);
    }

    private static void thirdBySeriesEndsOneToo() {
        Check.about("before a third is made: by a series");
        RequestGate gate = gateAt(0);
        int series = loginWithSeries(gate, 0);
        gate.tick(1);
        int second = login(gate, 0);
        gate.tick(1);
        use(gate, series - 2, 0);
        int drawn = gate.count(5);
        asking(gate, 0, series, series + 1);
        sessions(gate, "the second was last used longest ago", 0, series - 2, drawn + 2);
        use(gate, second, -1);
        asking(gate, 0, series, drawn + 1);
        sessions(gate, "used at the same time", 0, drawn + 2, drawn + 5);
    }

    private static void endedByLoginMakesRoom() {
        Check.about("before a third is made: the session that login() ends is none more");
        for (int given = 0; given < 2; given++) {
            RequestGate gate = gateAt(0);
            int[] ids = {login(gate, 0), login(gate, 0)};
            int others = login(gate, 1);
            int third = gate.login(0, 10, ids[given], false);
            sessions(gate, "one's own was given", 0, ids[1 - given], third);
            int fourth = gate.login(0, 10, others, false);
            sessions(gate, "another's was given", 0, third, fourth);
            sessions(gate, "another's was given", 1, -1, -1);
        }
    }

    private static void olderSeriesEnds() {
        Check.about("a user has at most two: before a third is made the older one is ended");
        RequestGate gate = gateAt(0);
        int first = loginWithSeries(gate, 0);
        memory(gate, "one", 0, first, -1);
        int second = loginWithSeries(gate, 0);
        memory(gate, "two", 0, first, second);
        gate.tick(2);
        asking(gate, 0, first, first + 1);
        int firstToken = gate.series(0, 0, 1);
        int third = loginWithSeries(gate, 0);
        memory(gate, "the older one ended, though it was used later", 0, second, third);
        Check.due("it asks for nobody", asking(gate, 0, first, firstToken), -1);
        Check.due("nor with a wrong token", asking(gate, 0, first, 0), -1);
        Check.due("which is no theft", gate.count(3), 0);
        Check.due("token of the second", gate.series(0, 0, 1), second + 1);
        Check.due("token of the third", gate.series(0, 1, 1), third + 1);
        Check.due("no third place", gate.series(0, 2, 0), -1);
        login(gate, 0);
        memory(gate, "a login without one makes none and ends none", 0, second, third);
    }

    private static void twoSeriesOfEachUser() {
        Check.about("a user has at most two (series)");
        RequestGate gate = gateAt(0);
        int[] ids = new int[3 * USERS];
        for (int i = 0; i < ids.length; i++) {
            ids[i] = loginWithSeries(gate, i % USERS);
        }
        for (int user = 0; user < USERS; user++) {
            memory(gate, "the last two", user, ids[USERS + user], ids[2 * USERS + user]);
        }
    }

    private static void seriesDoNotAge() {
        Check.about("A SERIES belongs to a user and has an ID and a TOKEN: time does not end it");
        RequestGate gate = gateAt(0);
        int series = loginWithSeries(gate, 1);
        for (int i = 0; i < 20; i++) {
            gate.tick(100);
        }
        memory(gate, "2000 later", 1, series, -1);
        Check.due("2000 later", asking(gate, 0, series, series + 1), 9);
    }
}
