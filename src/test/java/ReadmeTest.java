import java.io.IOException;
import java.nio.file.Files;
import java.nio.file.Path;

// README.md's example, line by line: each call stands there with the answer that it gets here.
public final class ReadmeTest {
    private static final Check c = new Check();
    private static String readme = "";

    public static void main(String[] args) throws IOException {
        readme = Files.readString(Path.of("README.md")).replaceAll(" +", " ");
        example();
        everyCallIsTold();
        c.end();
    }

    private static void example() {
        stands("ThawWords x = new ThawWords();");
        ThawWords x = new ThawWords();
        stands("String text = \"place 0;frost 5 2;warm 3 1;sound 1;person 4 0;\";");
        String text = "place 0;frost 5 2;warm 3 1;sound 1;person 4 0;";
        stands("for (int i = 0; i < text.length(); i++) x.type(text.charAt(i), 1);");
        for (int i = 0; i < text.length(); i++) x.type(text.charAt(i), 1);
        answers("x.cape(); // ", x.cape(), " items");
        answers("x.says(0, 7, 1); // person 0 says, loud 7, sound 0: saying ", x.says(0, 7, 1), "\n");
        answers("x.when(0, 0); // ", x.when(0, 0), ":");
        answers("x.go(2); // ", x.go(2), ":");
        answers("x.heard(0, 0, 1); // ", x.heard(0, 0, 1), ":");
    }

    private static void everyCallIsTold() {
        String[] calls = {"type", "clear", "cape", "place", "warmth", "melts", "person", "says", "goes", "lantern", "go",
            "saying", "soundOf", "heard", "now", "anew", "when", "whole", "hours", "fits", "lanterns", "answers", "spoke",
            "odds", "rate", "keep", "back", "count", "trace"};
        for (String call : calls) stands("`" + call + "`");
    }

    // What the call answers is what the line tells, and nothing more of a number behind it.
    private static void answers(String line, int got, String behind) {
        stands(line + got + behind);
    }

    private static void stands(String line) {
        c.due("README.md has '" + line + "'", readme.contains(line) ? 1 : 0, 1);
    }
}
