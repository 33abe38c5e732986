import java.io.IOException;
import java.nio.file.Files;
import java.nio.file.Path;
import java.util.List;
import java.util.stream.Stream;

/** README.md says how to use the class: what it shows is what is there, and does what it says. */
public final class ReadmeTest {
  public static void main(String[] args) throws IOException {
    String page = Files.readString(Path.of("README.md"));
    String example = Files.readString(Path.of("src/test/java/Example.java"));
    Check.due("README.md shows Example.java", page.contains("```java\n" + example + "```"), true);
    Check.due("README.md shows what it prints", page.contains("```text\n" + Example.run() + "```"), true);
    Check.due("README.md tells of .ci/run", page.contains("    .ci/run\n"), true);
    List<String> tests;
    try (Stream<Path> files = Files.list(Path.of("src/test/java"))) {
      tests = files.map(f -> f.getFileName().toString().replace(".java", ""))
          .filter(name -> name.endsWith("Test")).toList();
    }
    Check.due("there are tests", tests.size() > 10, true);
    for (String name : tests) Check.due("README.md names " + name, page.contains("| " + name + " |"), true);
    Check.end("ReadmeTest");
  }
}
