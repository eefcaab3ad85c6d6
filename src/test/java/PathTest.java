/** The terms: the buffer, what a path is made into when it is made plain, and what makes it bad. */
public final class PathTest {
    public static void main(String[] args) {
        bufferOfForty();
        codesOfTheBuffer();
        beginsWithSlash();
        segmentsBetweenSlashes();
        fromSemicolonOnIsCutOff();
        hexadecimalDigits();
        backslashAnywhere();
        percentWithoutTwoDigits();
        percentThatBecomesNoCharacter();
        percentThatBecomesWhatMisleads();
        percentIsReadOnce();
        lastEmptyOneFallsOut();
        anotherEmptyOneIsBad();
        dotFallsOut();
        twoDotsFallOutWithTheOneBefore();
        twoDotsWithoutOneBefore();
        dotsAreSeenAfterAllIsPlain();
        fullBufferOfSegments();
        badInOpenAndInFits();
        Check.end();
    }

    private static RequestGate withRule(String pattern, int below) {
        RequestGate gate = new RequestGate();
        gate.expression(8, below, 0);
        Check.due("rule " + pattern, Check.rule(gate, pattern, 0, 15), 0);
        return gate;
    }

    /** Made plain, the path is this one (which no *, ? or % stands in), with as many segments. */
    private static void plain(String path, String due) {
        RequestGate gate = withRule(due, 99);
        Check.write(gate, path);
        Check.due(path + " is " + due, gate.fits(0), 1);
        int segments = due.equals("/") ? 0 : due.split("/").length - 1;
        for (int below = segments; below <= segments + 1; below++) {
            RequestGate counting = withRule("/**", below);
            Check.due(path + " has less than " + below, Check.get(counting, path, 0), segments < below ? 200 : 401);
        }
    }

    private static void bad(String... paths) {
        for (String path : paths) {
            RequestGate gate = withRule("/**", 99);
            Check.write(gate, path);
            Check.due("bad: " + path, gate.fits(0), -2);
            Check.due("bad: " + path, gate.open(0, 0, 0, 0, 0), 400);
        }
    }

    private static void bufferOfForty() {
        Check.about("There is a BUFFER of at most 40 characters");
        for (int length : new int[] {38, 39, 40}) {
            RequestGate gate = withRule("/" + "?".repeat(length - 1), 99);
            gate.type('/');
            for (int i = 1; i < length; i++) {
                Check.due("character " + i, gate.type('a'), true);
            }
            Check.due(length + " are there", gate.fits(0), 1);
            Check.due("one more than " + length, gate.type('a'), length < 40);
            Check.due("is there or not", gate.fits(0), length < 40 ? 0 : 1);
        }
    }

    private static void codesOfTheBuffer() {
        Check.about("characters, codes 33 .. 126");
        for (int c = -1; c <= 300; c++) {
            RequestGate gate = withRule("/", 99);
            gate.type('/');
            Check.due("type(" + c + ")", gate.type(c), c >= 33 && c <= 126);
        }
    }

    private static void beginsWithSlash() {
        Check.about("The path is BAD if it doesn't begin with /");
        plain("/", "/");
        plain("/a", "/a");
        bad("", "a", "a/", ".", "./a", ";/", "%2fa", "?", "*/a", "!", "~/a");
        for (int c = 33; c <= 126; c++) {
            if (c != '/') {
                bad((char) c + "/a");
            }
        }
    }

    private static void segmentsBetweenSlashes() {
        Check.about("its SEGMENTS are what stands between one / and the next, and behind the last one");
        plain("/a/b", "/a/b");
        plain("/a/b/c", "/a/b/c");
        plain("/ab", "/ab");
        plain("/a/bc", "/a/bc");
        for (int n = 1; n <= 20; n++) {
            plain("/a".repeat(n), "/a".repeat(n));
        }
    }

    private static void fromSemicolonOnIsCutOff() {
        Check.about("what stands from the first ; on is cut off");
        plain("/a;", "/a");
        plain("/a;b", "/a");
        plain("/a;b;c", "/a");
        plain("/a;;", "/a");
        plain("/ab;c/d", "/ab/d");
        plain("/a;b/c;d", "/a/c");
        plain("/a/c;d", "/a/c");
        plain("/a;b/c", "/a/c");
        plain("/a;../b", "/a/b");
        plain("/a;.", "/a");
        plain("/;", "/");
        plain("/;a", "/");
        plain("/a;" + "b".repeat(37), "/a");
    }

    private static void hexadecimalDigits() {
        Check.about("each % with two hexadecimal digits (0 .. 9, a .. f, A .. F) becomes the character with that code");
        plain("/%41", "/A");
        plain("/%61", "/a");
        plain("/%39%30", "/90");
        plain("/%4a%4A", "/JJ");
        plain("/%4f%4F", "/OO");
        plain("/%7a%7A", "/zz");
        plain("/x%61y", "/xay");
        plain("/%61/%62", "/a/b");
        plain("/%6161", "/a61");
        plain("/%61".repeat(10), "/a/a/a/a/a/a/a/a/a/a");
        plain("/a" + "%61".repeat(12), "/" + "a".repeat(13));
        for (int c = 33; c <= 126; c++) {
            boolean digit = c >= '0' && c <= '9' || c >= 'a' && c <= 'f' || c >= 'A' && c <= 'F';
            if (!digit) {
                bad("/%4" + (char) c, "/%" + (char) c + "4", "/a%6" + (char) c + "1");
            } else {
                plain("/%4" + (char) c, "/" + (char) (64 + Character.digit(c, 16)));
            }
        }
        plain("/%51", "/Q");
        plain("/%79", "/y");
        bad("/%0a", "/%9a", "/%aa", "/%fa", "/%Aa", "/%Fa");
    }

    private static void backslashAnywhere() {
        Check.about("The path is BAD if it .. has a backslash anywhere");
        bad("\\", "\\/", "/\\", "/a\\", "/\\a", "/a/\\/b", "/a;\\", "/a;b\\c", "/;\\", "/a/..\\", "/a\\/..", "/a;\\/../b");
        String forty = "/" + "a".repeat(39);
        plain(forty, forty);
        for (int i = 0; i < 40; i++) {
            bad(forty.substring(0, i) + "\\" + forty.substring(i + 1));
        }
    }

    private static void percentWithoutTwoDigits() {
        Check.about("BAD if it .. has, in what is not cut off, a % without two such digits behind it");
        bad("/%", "/a%", "/%4", "/a%4", "/%/", "/%4/", "/%/41", "/%4/1", "/%;", "/%4;", "/%;41", "/%4;1", "/%%", "/%%41", "/%4%41",
                "/a/%", "/%/..", "/a/%4/..", "/" + "a".repeat(38) + "%", "/" + "a".repeat(37) + "%4", "/./%", "/%41%", "/%41%4");
        plain("/" + "a".repeat(36) + "%41", "/" + "a".repeat(36) + "A");
        plain("/a;%", "/a");
        plain("/a;%4", "/a");
        plain("/a;%zz", "/a");
        plain("/a;%/b", "/a/b");
        plain("/%41;%4", "/A");
        plain("/;%", "/");
    }

    private static void percentThatBecomesNoCharacter() {
        Check.about("BAD if it .. has one that becomes a character that is not 33 .. 126");
        bad("/%20", "/%7f", "/%7F", "/%00", "/%01", "/%0a", "/%1f", "/%80", "/%a1", "/%ff", "/%FF", "/a%20b", "/%20/..");
        plain("/%21", "/!");
        plain("/%7e", "/~");
        plain("/%7E", "/~");
        plain("/a;%20", "/a");
        plain("/a;%00%ff", "/a");
    }

    private static void percentThatBecomesWhatMisleads() {
        Check.about("BAD if it .. has one that .. is /, \\, % or ;");
        bad("/%2f", "/%2F", "/a%2fb", "/%5c", "/%5C", "/a%5c", "/%25", "/a%25", "/%3b", "/%3B", "/a%3bb", "/a/%2f/..", "/%2e%2f");
        plain("/%2e%61", "/.a");
        plain("/%30", "/0");
        plain("/%5b%5d", "/[]");
        plain("/%24%26", "/$&");
        plain("/%3a%3c", "/:<");
        plain("/a;%2f", "/a");
        plain("/a;%5c%25%3b", "/a");
    }

    private static void percentIsReadOnce() {
        Check.about("then each % with two hexadecimal digits becomes the character: once");
        bad("/%2541", "/%252e", "/%25");
        plain("/%34%31", "/41");
        RequestGate gate = withRule("/a??", 99);
        Check.write(gate, "/a%2a%3F");
        Check.due("the characters * and ?", gate.fits(0), 1);
    }

    private static void lastEmptyOneFallsOut() {
        Check.about("Of the plain segments the last one falls out if it is empty");
        plain("/", "/");
        plain("/a/", "/a");
        plain("/a/b/", "/a/b");
        plain("/a/;", "/a");
        plain("/a/;b", "/a");
        plain("/;a", "/");
        plain("/a;b/", "/a");
        plain("/./", "/");
        plain("/a/../", "/");
        plain("/" + "a".repeat(38) + "/", "/" + "a".repeat(38));
    }

    private static void anotherEmptyOneIsBad() {
        Check.about("another empty one makes the path BAD");
        bad("//", "//a", "/a//", "/a//b", "///", "/;/", "/;/a", "/;x/a", "/a/;/b", "/a/;x/", "/a//.", "/a//..", "//..", "/./;/a",
                "/a/b//", "/".repeat(40), "/a".repeat(19) + "//");
        plain("/a".repeat(19) + "/", "/a".repeat(19));
    }

    private static void dotFallsOut() {
        Check.about("from the first one on, a segment . falls out");
        plain("/.", "/");
        plain("/./", "/");
        plain("/./a", "/a");
        plain("/a/.", "/a");
        plain("/a/./", "/a");
        plain("/a/./b", "/a/b");
        plain("/.".repeat(20), "/");
        plain("/.".repeat(19) + "/a", "/a");
        plain("/%2e", "/");
        plain("/.;a/b", "/b");
        plain("/.a", "/.a");
        plain("/a.", "/a.");
        plain("/...", "/...");
        plain("/./.../.", "/...");
        plain("/,", "/,");
    }

    private static void twoDotsFallOutWithTheOneBefore() {
        Check.about("a segment .. falls out together with the nearest one before it that has not fallen out");
        plain("/a/..", "/");
        plain("/a/../", "/");
        plain("/a/../b", "/b");
        plain("/a/b/..", "/a");
        plain("/a/b/../c", "/a/c");
        plain("/a/b/../..", "/");
        plain("/a/b/../../c", "/c");
        plain("/a/b/c/../..", "/a");
        plain("/a/b/../c/..", "/a");
        plain("/a/b/../c/../..", "/");
        plain("/a/./..", "/");
        plain("/a/././../b", "/b");
        plain("/.../..", "/");
        plain("/..a/..", "/");
        plain("/a/%2e.", "/");
        plain("/a/.%2E", "/");
        plain("/a/..;x", "/");
        plain("/a;x/..;y/b", "/b");
        plain("/..a", "/..a");
        plain("/a..", "/a..");
        plain("/a".repeat(8) + "/..".repeat(8), "/");
        plain("/a/..".repeat(8), "/");
        plain("/a/..".repeat(7) + "/b/c", "/b/c");
        plain("/abcdefghij/../klmnopqrst/../uvwxyz/1234", "/uvwxyz/1234");
    }

    private static void twoDotsWithoutOneBefore() {
        Check.about("if there is none, the path is BAD");
        bad("/..", "/../", "/../a", "/./..", "/a/../..", "/a/../../b", "/a/../../b/c", "/a/./../..", "/a/b/../../..", "/%2e%2e", "/..;a",
                "/a".repeat(7) + "/..".repeat(8), "/..".repeat(13), "/a/../.%2e/a/a", "/a/..;x/..;y");
    }

    private static void dotsAreSeenAfterAllIsPlain() {
        Check.about("Then (after what is bad by itself): what falls out does not save a bad segment");
        bad("/%zz/..", "/a/%2f/..", "/%20/..", "/a//..", "/;/..", "/\\/..");
    }

    private static void fullBufferOfSegments() {
        Check.about("There is a BUFFER of at most 40 characters .. paths");
        plain("/a".repeat(20), "/a".repeat(20));
        plain("/a".repeat(19) + "/.", "/a".repeat(19));
        plain("/a".repeat(17) + "/../bb", "/a".repeat(16) + "/bb");
        plain("/" + "a".repeat(18) + "/" + "b".repeat(20), "/" + "a".repeat(18) + "/" + "b".repeat(20));
    }

    private static void badInOpenAndInFits() {
        Check.about("a path that was bad leaves nothing to the next one");
        RequestGate gate = withRule("/b", 99);
        String[] before = {"/a/b/%", "/a//", "/a/..", "/a/../..", "/a\\", "/" + "a".repeat(39), "/a".repeat(20), ""};
        for (String path : before) {
            Check.write(gate, path);
            gate.fits(0);
            Check.write(gate, "/b");
            Check.due("after " + path, gate.fits(0), 1);
        }
    }
}
