import java.io.IOException;
import java.nio.file.Files;
import java.nio.file.Path;

/** The example of README.md: it stands here as it stands there, and answers as it says. */
public final class ReadmeTest {
    private static final Checks CHECKS = new Checks("ReadmeTest");

    public static void main(String[] args) throws IOException {
        standsAsThere();
        example();
        CHECKS.end();
    }

    private static void standsAsThere() throws IOException {
        String readme = Files.readString(Path.of("README.md"));
        String fence = "```java\n";
        int begin = readme.indexOf(fence) + fence.length();
        String there = readme.substring(begin, readme.indexOf("```", begin));
        String here = Files.readString(Path.of("src/test/java/ReadmeTest.java"));
        CHECKS.holds("README.md has an example", readme.contains(fence) && there.contains("InstrumentFiles"));
        CHECKS.holds("its example is the one below", here.replaceAll("(?m)^ {8}", "").contains(there));
    }

    private static void example() {
        InstrumentFiles it = new InstrumentFiles();
        // A FILE of a WORD "inc" and an INT 1, and of one METHOD, named by the WORD, which gives 1 more than it TAKES.
        it.feed(0x494e01020303696eL, 8); // 73, 78, VERSION 1; two POOL entries: a WORD of three letters, i, n,
        it.feed(0x6301000000010100L, 8); // c; the INT 1; one METHOD: its NAME is entry 0;
        it.feed(0x0101010102060300L, 8); // it TAKES one INT, GIVES an INT, has one LOCAL, STACK 2, L 6; CODE: 3 0,
        it.feed(0x010107160000L, 6);     // 1 1, 7, 22; no MAPS; a byte for the SUM,
        int sum = it.seal();             // which is put there: 11
        int methods = it.read();         // 1; below -100: where the FILE is wrong, and fault() tells why
        int ended = it.call(0, 41, 0, 0, 1000); // METHOD 0 of 41, 1000 STEPS at most: 1; 0: it FAILED, told(0) says why
        long given = it.result();        // 42
        CHECKS.same("seal", sum, 11);
        CHECKS.same("read", methods, 1);
        CHECKS.same("call", ended, 1);
        CHECKS.same("result", given, 42);
    }
}
