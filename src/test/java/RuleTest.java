/** Promises 5 (rule) and 17 (fits), with what the terms say about paths and patterns. */
public final class RuleTest {
    public static void main(String[] args) {
        numbersAndLimit();
        wrongInputs();
        patternsAndOthers();
        pathsMadePlain();
        badPaths();
        percentOfEachCode();
        patternsFit();
        fitsAnswers();
        methodsAndOrder();
        Check.end();
    }

    private static RequestGate withYes() {
        RequestGate gate = new RequestGate();
        gate.expression(0, 0, 0);
        return gate;
    }

    private static void numbersAndLimit() {
        RequestGate gate = withYes();
        for (int i = 0; i < 8; i++) {
            Check.due("rule " + i, Check.rule(gate, "/" + i, 0, 15), i);
            Check.due("the buffer becomes empty", gate.fits(i), -2);
        }
        Check.due("rule 8", Check.rule(gate, "/7", 0, 15), -1);
        Check.due("the buffer stays", gate.fits(7), 1);
    }

    private static void wrongInputs() {
        RequestGate gate = withYes();
        Check.rule(gate, "/a", 0, 15);
        Check.write(gate, "/a");
        int[][] wrong = {{-1, 1}, {1, 1}, {16, 1}, {0, 0}, {0, 16}, {0, -1}, {0, Integer.MIN_VALUE}, {Integer.MAX_VALUE, 1}};
        for (int[] r : wrong) {
            Check.due("rule(" + r[0] + ", " + r[1] + ")", gate.rule(r[0], r[1]), -1);
            Check.due("the buffer stays", gate.fits(0), 1);
            Check.due("no rule is made", gate.fits(1), -1);
        }
        Check.due("what was refused may be asked again", gate.rule(0, 1), 1);
    }

    private static void patternsAndOthers() {
        String[] good = {"/", "/a", "/*", "/**", "/?", "/a/b", "/**/**", "/*a*", "/a*b*c", "/.", "/..", "/a/../..",
            "/**/x?/**", "/" + "a".repeat(39), "/a".repeat(20), "/!~", "/a:b", "/??"};
        String[] bad = {"", "a", "*", "**", "a/b", "//", "/a/", "//a", "/a//b", "/a**", "/**a", "/***", "/****", "/a/**b",
            "/a/b**/c", "/a\\", "/\\", "/%41", "/a%", "/a;b", "/;", "/a/;/b", "/**/", "/".repeat(40)};
        for (String text : good) {
            RequestGate gate = withYes();
            Check.due("pattern " + text, Check.rule(gate, text, 0, 15), 0);
        }
        for (String text : bad) {
            RequestGate gate = withYes();
            Check.due("no pattern " + text, Check.rule(gate, text, 0, 15), -1);
            Check.due("no rule is made", gate.fits(0), -1);
        }
    }

    private static void fits(String pattern, String path, int want) {
        RequestGate gate = withYes();
        Check.rule(gate, pattern, 0, 15);
        Check.write(gate, path);
        Check.due(pattern + " for " + path, gate.fits(0), want);
        Check.due("again, as the buffer stays", gate.fits(0), want);
        Check.due("open " + path, gate.open(0, 0, 0, 0, 0), want == 1 ? 200 : want == 0 ? 403 : 400);
    }

    private static void pathsMadePlain() {
        String[][] plain = {
            {"/", "/"}, {"/", "/;"}, {"/", "/;a"}, {"/", "/."}, {"/", "/./"}, {"/", "/././."}, {"/", "/a/.."}, {"/", "/a/../"},
            {"/", "/a/b/../.."}, {"/", "/.;x"}, {"/", "/%2e"}, {"/", "/%2E/a/.%2e"}, {"/", "/a/..;b"}, {"/a", "/a"}, {"/a", "/a/"},
            {"/a", "/a;"}, {"/a", "/a;b=c;d"}, {"/a", "/a;%"}, {"/a", "/a;%4"}, {"/a", "/a;%2f/"}, {"/a", "/a/;x"}, {"/a", "/%61"},
            {"/a", "/./a"}, {"/a", "/b/../a"}, {"/a", "/b/c/../../a"}, {"/a", "/a/b/c/../../"}, {"/a", "/b/./../a"},
            {"/a/b", "/a/b"}, {"/a/b", "/a;x/b;y"}, {"/a/b", "/a/c/../b"}, {"/a/b", "/%61/%62"}, {"/a/b", "/a/./b/."},
            {"/...", "/..."}, {"/...", "/%2e.%2e"}, {"/..a", "/..a"}, {"/.a", "/.a"}, {"/a..", "/a.."}, {"/J", "/%4A"}, {"/J", "/%4a"},
            {"/o", "/%6F"}, {"/o", "/%6f"}, {"/4a1", "/4a1"}, {"/ab12", "/a%6212"}, {"/!", "/%21"}, {"/~", "/%7e"},
        };
        for (String[] p : plain) {
            fits(p[0], p[1], 1);
        }
        fits("/?", "/%3f", 1);
        fits("/%61".substring(0, 1) + "a", "/%41", 0);
        fits("/A", "/a", 0);
    }

    private static void badPaths() {
        String[] bad = {"", "a", "a/b", ";/a", "%2fa", "*", ".", "..", "//", "//a", "/a//", "/a//b", "/;/a", "/a/;x/b", "/a//.", "/..",
            "/../a", "/a/../..", "/a/../../b", "/./..", "/%2e%2e", "/..;x", "/a/..;x/..", "\\", "/\\", "/a\\b", "/a;\\", "/a/;b\\c", "/%",
            "/a%", "/%4", "/%4/1", "/%/41", "/%;41", "/%4;1", "/%g1", "/%1g", "/%4G", "/%G4", "/%%41", "/%4%31", "/%@0", "/%0@",
            "/%`0", "/%0`", "/%:0", "/%-1", "/a/b/%5c", "/%5C", "/%2f", "/%2F", "/%25", "/%2541", "/%3b", "/%3B", "/%00", "/%20", "/%7f",
            "/%7F", "/%80", "/%ff", "/a/%2f/..", "/%/..", "/" + "a/".repeat(19) + "/", "/a%2"};
        for (String path : bad) {
            fits("/**", path, -2);
        }
    }

    private static void percentOfEachCode() {
        String digits = "0123456789abcdef";
        String capitals = "0123456789ABCDEF";
        for (int c = 0; c < 256; c++) {
            boolean good = c >= 33 && c <= 126 && "/\\%;".indexOf(c) < 0;
            String pattern = !good ? "/*" : c == '.' ? "/" : "/" + (char) c;
            int want = good ? 1 : -2;
            fits(pattern, "/%" + digits.charAt(c / 16) + digits.charAt(c % 16), want);
            fits(pattern, "/%" + capitals.charAt(c / 16) + capitals.charAt(c % 16), want);
        }
    }

    private static void patternsFit() {
        String[][] fitting = {
            {"/**", "/"}, {"/**", "/a"}, {"/**", "/a/b/c"}, {"/**/**", "/"}, {"/**/**", "/a"}, {"/a/**", "/a"}, {"/a/**", "/a/b/c"},
            {"/**/a", "/a"}, {"/**/a", "/b/a/a"}, {"/**/a/**", "/a"}, {"/**/a/**", "/b/a/c"}, {"/**/a/**/b", "/a/b"},
            {"/**/a/**/b", "/a/c/a/b/b"}, {"/*", "/abc"}, {"/*/*", "/a/b"}, {"/a*", "/a"}, {"/a*", "/abc"}, {"/*a", "/a"}, {"/*a", "/baa"},
            {"/a*b", "/ab"}, {"/a*b", "/abab"}, {"/*a*b*", "/xxaxxbxx"}, {"/?", "/a"}, {"/??", "/ab"}, {"/a?c", "/abc"}, {"/?*", "/a"},
            {"/*?", "/abc"}, {"/*.x", "/p.x"}, {"/*.x", "/.x"}, {"/**/x?/**", "/p/q/x2/r"}, {"/*", "/*"}, {"/?", "/?"}, {"/a/*/c", "/a/**/c"},
            {"/**/b?/*c", "/a/b1/b2/c"}, {"/a".repeat(20), "/a".repeat(20)}, {"/**".repeat(13), "/a".repeat(20)},
            {"/*" + "a*".repeat(19), "/" + "a".repeat(39)},
        };
        String[][] others = {
            {"/", "/a"}, {"/a", "/"}, {"/a", "/b"}, {"/a", "/a/a"}, {"/a/b", "/a"}, {"/*", "/"}, {"/*", "/a/b"}, {"/*/*", "/a"}, {"/?", "/"},
            {"/?", "/ab"}, {"/??", "/a"}, {"/a*", "/ba"}, {"/*a", "/ab"}, {"/a*b", "/a"}, {"/a*b", "/ba"}, {"/a*a", "/a"}, {"/a/**", "/b/a"},
            {"/**/a", "/a/b"}, {"/**/a/**", "/"}, {"/**/a/**", "/b/ab"}, {"/**/a/**/b", "/b/a"}, {"/**/*", "/"}, {"/**/*/**/*", "/a"},
            {"/*?", "/"}, {"/a?c", "/ac"}, {"/.", "/."}, {"/..", "/a/.."}, {"/a/../b", "/b"}, {"/a/../../b", "/x1"}, {"/a", "/*"}, {"/ab", "/a?"},
            {"/*" + "a*".repeat(19), "/" + "a".repeat(18)}, {"/*a/*b", "/aa/ab/ab"}, {"/abc", "/ab"}, {"/ab", "/abc"},
        };
        for (String[] p : fitting) {
            fits(p[0], p[1], 1);
        }
        for (String[] p : others) {
            fits(p[0], p[1], 0);
        }
    }

    private static void fitsAnswers() {
        RequestGate gate = withYes();
        Check.rule(gate, "/a", 0, 15);
        for (int rule : new int[] {-1, 1, 8, Integer.MIN_VALUE, Integer.MAX_VALUE}) {
            Check.write(gate, "/a");
            Check.due("no such rule", gate.fits(rule), -1);
            Check.write(gate, "a");
            Check.due("no such rule and a bad path", gate.fits(rule), -1);
        }
        Check.due("bad path", gate.fits(0), -2);
        gate.clear();
        Check.due("empty path", gate.fits(0), -2);
        Check.write(gate, "/a");
        Check.due("fits", gate.fits(0), 1);
        Check.due("fits opens nothing", gate.close(), false);
        gate.type('b');
        Check.due("longer", gate.fits(0), 0);
    }

    private static void methodsAndOrder() {
        RequestGate gate = withYes();
        gate.expression(8, 0, 0);
        Check.rule(gate, "/a", 0, 1);
        Check.rule(gate, "/a", 0, 2);
        Check.rule(gate, "/*", 0, 4);
        Check.rule(gate, "/**", 0, 8);
        Check.rule(gate, "/b", 1, 3);
        Check.rule(gate, "/b", 0, 15);
        gate.user(1, 0, 1);
        int session = gate.login(0, 1, 0, false);
        for (int method = 0; method < 4; method++) {
            Check.due("/a, method " + method, Check.open(gate, "/a", method, session, session + 1), 200 + method);
            gate.close();
        }
        Check.due("the first that fits decides", Check.get(gate, "/b", session), 403);
        Check.due("none fits", Check.get(gate, "/c", session), 403);
        Check.due("the first with the method", Check.open(gate, "/b", 2, session, session + 1), 202);
    }
}
