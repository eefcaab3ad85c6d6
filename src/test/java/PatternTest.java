/** The terms: what is a pattern, and which paths it fits. */
public final class PatternTest {
    public static void main(String[] args) {
        patternBeginsWithSlash();
        nothingOrPieces();
        charactersOfAPiece();
        twoStarsStandAlone();
        longestPatterns();
        emptyPatternFitsNoSegments();
        twoStarsLieOnAnyNumber();
        otherPieceLiesOnOne();
        allOfThemInTheirOrder();
        starStandsForAnyCharacters();
        questionMarkStandsForOne();
        eachOtherStandsForItself();
        starsAndMarksTogether();
        dotsInPatternsFitNothing();
        patternIsLaidOnThePlainPath();
        eachRuleKeepsItsOwnPattern();
        Check.end();
    }

    private static RequestGate withYes() {
        RequestGate gate = new RequestGate();
        gate.expression(0, 0, 0);
        return gate;
    }

    private static void good(String... patterns) {
        for (String text : patterns) {
            RequestGate gate = withYes();
            Check.due("pattern " + text, Check.rule(gate, text, 0, 1), 0);
            Check.due("the buffer becomes empty", gate.type('/') && gate.fits(0) >= 0, true);
        }
    }

    private static void wrong(String... patterns) {
        for (String text : patterns) {
            RequestGate gate = withYes();
            Check.rule(gate, "/" + "?".repeat(39), 0, 1);
            Check.due("no pattern " + text, Check.rule(gate, text, 0, 1), -1);
            Check.due("no rule is made", gate.fits(1), -1);
            int room = 0;
            while (gate.type('a')) {
                room++;
            }
            Check.due("the buffer stays", room, 40 - text.length());
        }
    }

    private static void fits(String pattern, String... paths) {
        laid(pattern, 1, paths);
    }

    private static void fitsNot(String pattern, String... paths) {
        laid(pattern, 0, paths);
    }

    private static void laid(String pattern, int due, String... paths) {
        RequestGate gate = withYes();
        Check.due("pattern " + pattern, Check.rule(gate, pattern, 0, 1), 0);
        for (String path : paths) {
            Check.write(gate, path);
            Check.due(pattern + " on " + path, gate.fits(0), due);
            Check.due("open " + path, gate.open(0, 0, 0, 0, 0), due == 1 ? 200 : 403);
            gate.close();
        }
    }

    private static void patternBeginsWithSlash() {
        Check.about("A PATTERN begins with /");
        good("/", "/a");
        wrong("", "a", "*", "**", "?", "a/", "a/b", "**/a");
        for (int c = 33; c <= 126; c++) {
            if (c != '/') {
                wrong((char) c + "/a");
            }
        }
    }

    private static void nothingOrPieces() {
        Check.about("followed by nothing or by pieces with one / between each two");
        good("/", "/a", "/a/b", "/**/**", "/a/**/b", "/a".repeat(20));
        wrong("//", "/a/", "//a", "/a//b", "/**/", "/**//a", "/a/b/", "///", "/a".repeat(19) + "/", "/".repeat(40));
    }

    private static void charactersOfAPiece() {
        Check.about("a piece is .. one or more characters other than /, \\, %, ;");
        for (int c = 33; c <= 126; c++) {
            String one = "/" + (char) c;
            String[] texts = {one, one + "b", "/b" + (char) c, "/b" + (char) c + "b", "/b/c" + one + "/d", "/b/c" + one};
            if (c == '\\' || c == '%' || c == ';') {
                wrong(texts);
            } else if (c != '/') {
                good(texts);
            }
        }
        wrong("/%41", "/a%2a", "/**;", "/" + "a".repeat(38) + ";", "/" + "a".repeat(38) + "\\", "/" + "a".repeat(38) + "%");
    }

    private static void twoStarsStandAlone() {
        Check.about("a piece is ** or .. not with ** in it");
        good("/**", "/*", "/*a*", "/*?*", "/a*", "/*a", "/*/*", "/a/**", "/**/a", "/*/**/*", "/**/**/**");
        wrong("/***", "/****", "/*****", "/a**", "/**a", "/a**b", "/?**", "/**?", "/a/**b", "/a/b**", "/a**/b", "/**a/b", "/***/a",
                "/a/***", "/*a**", "/**/***", "/" + "*".repeat(39));
    }

    private static void longestPatterns() {
        Check.about("a BUFFER of at most 40 characters, .. in which .. patterns are written");
        good("/" + "a".repeat(39), "/" + "?".repeat(39), "/" + "*a".repeat(19) + "*", "/**".repeat(13), "/a".repeat(20), "/*".repeat(20));
        fits("/" + "?".repeat(39), "/" + "a".repeat(39));
        fitsNot("/" + "?".repeat(39), "/" + "a".repeat(38));
        fits("/*".repeat(20), "/a".repeat(20));
        fitsNot("/*".repeat(20), "/a".repeat(19));
        fits("/**".repeat(13), "/", "/a", "/a".repeat(20));
        fits("/" + "*a".repeat(19) + "*", "/" + "a".repeat(39), "/" + "a".repeat(19));
        fitsNot("/" + "*a".repeat(19) + "*", "/" + "a".repeat(18));
    }

    private static void emptyPatternFitsNoSegments() {
        Check.about("A PATTERN begins with /, followed by nothing: it fits a path without segments");
        fits("/", "/", "/.", "/a/..", "/;x", "/./");
        fitsNot("/", "/a", "/a/", "/a/b", "/*", "/...");
    }

    private static void twoStarsLieOnAnyNumber() {
        Check.about("** on any number of segments (none too)");
        for (int n = 0; n <= 20; n++) {
            fits("/**", n == 0 ? "/" : "/a".repeat(n));
        }
        fits("/a/**", "/a", "/a/b", "/a/b/c", "/a/a");
        fitsNot("/a/**", "/", "/b", "/ab", "/b/a");
        fits("/**/a", "/a", "/b/a", "/a/a", "/b/c/a");
        fitsNot("/**/a", "/", "/b", "/a/b", "/ba");
        fits("/a/**/b", "/a/b", "/a/c/b", "/a/b/b", "/a/a/b", "/a/c/d/e/b");
        fitsNot("/a/**/b", "/a", "/b", "/ab", "/a/b/c", "/b/a");
        fits("/**/a/**", "/a", "/b/a", "/a/b", "/b/a/c", "/a/a");
        fitsNot("/**/a/**", "/", "/b", "/b/c", "/ab/ba");
        fits("/**/**", "/", "/a", "/a/b/c");
        fits("/**/*/**", "/a", "/a/b", "/a/b/c");
        fitsNot("/**/*/**", "/");
    }

    private static void otherPieceLiesOnOne() {
        Check.about("another piece on one that it fits");
        fits("/*", "/a", "/abc", "/a/", "/./a");
        fitsNot("/*", "/", "/a/b", "/a/b/c");
        fits("/*/*", "/a/b");
        fitsNot("/*/*", "/a", "/a/b/c");
        fitsNot("/a*b", "/a/b");
        fitsNot("/a?b", "/a/b");
        fits("/**/x*/**/y?", "/x/y1", "/a/x2/b/c/yy", "/x/x/y1/y2");
        fitsNot("/**/x*/**/y?", "/y1/x", "/x/y", "/x/y12", "/x");
    }

    private static void allOfThemInTheirOrder() {
        Check.about("the pieces can be laid along its segments, all of them, in their order");
        fits("/a/b", "/a/b", "/a/b/", "/a/c/../b");
        fitsNot("/a/b", "/", "/a", "/b", "/b/a", "/a/b/c", "/c/a/b", "/ab");
        fits("/**/a/**/b/**/c", "/a/b/c", "/x/a/y/b/z/c", "/a/a/b/b/c/c");
        fitsNot("/**/a/**/b/**/c", "/a/c/b", "/c/b/a", "/a/b", "/b/c", "/a/b/c/d");
        fits("/**/a/b/**/a", "/a/b/a", "/a/a/b/b/a");
        fitsNot("/**/a/b/**/a", "/a/b", "/a/a/a", "/b/a/a");
    }

    private static void starStandsForAnyCharacters() {
        Check.about("* stands for any characters (none too)");
        fits("/a*", "/a", "/ab", "/abc", "/a*", "/a" + "b".repeat(38));
        fitsNot("/a*", "/b", "/ba", "/A");
        fits("/*a", "/a", "/ba", "/aa", "/bca");
        fitsNot("/*a", "/b", "/ab", "/aab");
        fits("/a*a", "/aa", "/aba", "/aaa", "/a/../aba");
        fitsNot("/a*a", "/a", "/ab", "/ba");
        fits("/*a*", "/a", "/ba", "/ab", "/bab", "/aaa");
        fitsNot("/*a*", "/b", "/bb");
        fits("/*a*b*", "/ab", "/acb", "/xaxbx", "/bab");
        fitsNot("/*a*b*", "/a", "/b", "/ba", "/bba");
        fits("/*ab", "/ab", "/aab", "/abab");
        fitsNot("/*ab", "/aba", "/b");
    }

    private static void questionMarkStandsForOne() {
        Check.about("? for any one");
        fits("/?", "/a", "/?", "/*", "/!", "/~", "/%61");
        fitsNot("/?", "/", "/ab", "/a/b");
        fits("/??", "/ab", "/..a/../ab");
        fitsNot("/??", "/a", "/abc", "/a/b");
        fits("/a?", "/ab", "/aa");
        fitsNot("/a?", "/a", "/ba", "/abc");
        fits("/?a", "/ba", "/aa");
        fitsNot("/?a", "/a", "/ab");
        fits("/a?c", "/abc", "/a?c");
        fitsNot("/a?c", "/ac", "/abbc");
        for (int c = 33; c <= 126; c++) {
            if ("/\\%;.".indexOf(c) < 0) {
                fits("/?", "/" + (char) c);
                fits("/x*y", "/x" + (char) c + "y");
            }
        }
    }

    private static void eachOtherStandsForItself() {
        Check.about("each other character for itself");
        for (int c = 33; c <= 126; c++) {
            if ("/\\%;*?".indexOf(c) >= 0) {
                continue;
            }
            String text = "/x" + (char) c;
            fits(text, text, text + ";z");
            fitsNot(text, "/x", "/x" + (char) (c == 126 ? 33 : 65 + (c + 1) % 26 + (c >= 65 && c < 91 ? 32 : 0)), text + "x");
        }
        fitsNot("/a", "/A");
        fitsNot("/A", "/a");
        fitsNot("/a.b", "/axb", "/ab");
        fitsNot("/[a]", "/a");
        fitsNot("/a+", "/aa");
        fits("/(a|b)$^", "/(a|b)$^");
    }

    private static void starsAndMarksTogether() {
        Check.about("* stands for any characters (none too), ? for any one");
        fits("/*?", "/a", "/ab", "/abc");
        fits("/?*", "/a", "/ab", "/abc");
        fits("/?*?", "/ab", "/abc");
        fitsNot("/?*?", "/a");
        fits("/*?*", "/a", "/abc");
        fits("/*.?", "/a.b", "/.b", "/..b", "/a.b.c");
        fitsNot("/*.?", "/a.", "/a.bc", "/b");
    }

    private static void dotsInPatternsFitNothing() {
        Check.about("in a pattern a piece . or .. is one as any other; no plain path has such a segment");
        fitsNot("/.", "/.", "/", "/a");
        fitsNot("/..", "/a/..", "/a");
        fitsNot("/a/..", "/a/..", "/", "/a");
        fits("/...", "/...");
    }

    private static void patternIsLaidOnThePlainPath() {
        Check.about("It FITS a path that is not bad if the pieces can be laid along its segments (made plain)");
        fits("/a/b", "/%61/%62", "/a;x/b;y", "/./a/./b", "/a/x/../b", "/a/b/");
        fitsNot("/a/*/b", "/a/x/../b", "/a/./b");
        fitsNot("/a;*".replace(";", ":"), "/a;b");
        RequestGate gate = withYes();
        Check.rule(gate, "/**", 0, 1);
        Check.write(gate, "//");
        Check.due("a bad path", gate.fits(0), -2);
    }

    private static void eachRuleKeepsItsOwnPattern() {
        Check.about("RULES 0, 1, .. (at most 8) have a pattern");
        RequestGate gate = withYes();
        for (int i = 0; i < 8; i++) {
            Check.due("rule " + i, Check.rule(gate, "/" + "abcdefgh".substring(0, i) + "?", 0, 1), i);
        }
        for (int length = 1; length <= 9; length++) {
            Check.write(gate, "/" + "abcdefghij".substring(0, length));
            for (int rule = 0; rule < 8; rule++) {
                Check.due("rule " + rule + " on " + length, gate.fits(rule), rule + 1 == length ? 1 : 0);
            }
        }
    }
}
