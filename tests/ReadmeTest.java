import java.io.IOException;
import java.nio.file.Files;
import java.nio.file.Path;
import java.util.ArrayList;
import java.util.List;

/** README.md's example: the lines here are its lines, and what they answer is what it tells behind them. */
public final class ReadmeTest {
    public static void main(String[] args) throws IOException {
        List<String> shown = example(Files.readAllLines(Path.of("README.md")));
        List<String> tried = trimmed(Files.readAllLines(Path.of("tests/ReadmeTest.java")));
        Check.due("README.md has an example", shown.size() > 10, true);
        for (String line : shown) {
            Check.due("tried here: " + line, tried.contains(line), true);
        }
        List<Long> answers = answers();
        int told = 0;
        for (String line : shown) {
            if (!line.contains(" = x.")) {
                continue;
            }
            long due = Long.parseLong(line.replaceFirst(".*// (-?\\d+).*", "$1"));
            Check.due(line, told < answers.size() ? answers.get(told) : Long.MIN_VALUE, due);
            told++;
        }
        Check.due("answers told", told, answers.size());
        Check.end();
    }

    private static List<Long> answers() {
        PartyWalls x = new PartyWalls();
        x.feed(0x72616973, 0x65203620, 0x69662068, 0x65696768, 0x743e3130);  // "raise 6 if height>10"
        x.feed(0x3b20706f, 0x73742031, 0x3b202020, 0x20202020, 0x20202020);  // "; post 1;"
        int clauses = x.rule(29);                // 2; a fault would be -9, -8 or -7, its place fault()
        int one = x.owner();                     // 0
        int other = x.owner();                   // 1
        int wall = x.wall(one, other);           // 0: side 0 is of the first owner, side 1 of the second
        int free = x.work(wall, 0, 0, 0, 0, 10); // 0: to raise it (sort 0) by 10 needs no notice
        int work = x.work(wall, 0, 0, 0, 0, 11); // 1: by 11 it does
        int state = x.state(work);               // 0: PLANNED
        int arrival = x.notice(work);            // 1: the day on which notice arrives, post behind today
        int today = x.wait(1);                   // 1
        int answered = x.answer(work, true);     // 1: the other side consents
        int allowed = x.told(work, 0);           // 7: the day from which it is allowed
        int later = x.wait(6);                   // 7
        int begun = x.begin(work);               // 1: it is begun (0: it would be void)
        int cells = x.build(work, 0, 1, 2, 300); // 4: two cells on each of segments 0 and 1, at 300 each
        int paid = x.use(wall, 1, 0, 1, 1);      // 300: side 1 uses the lowest one of each, for half its value
        long got = x.balance(one, 7, 7);         // 300: up to day 7, as known on day 7
        Check.due("the first one is free", x.state(free), 1);
        return List.of((long) clauses, (long) one, (long) other, (long) wall, (long) free, (long) work,
                (long) state, (long) arrival, (long) today, (long) answered, (long) allowed, (long) later,
                (long) begun, (long) cells, (long) paid, got);
    }

    /** The lines between the first "```java" and its end. */
    private static List<String> example(List<String> lines) {
        List<String> found = new ArrayList<>();
        int from = lines.indexOf("```java");
        for (int i = from + 1; from >= 0 && i < lines.size() && !lines.get(i).equals("```"); i++) {
            found.add(lines.get(i).trim());
        }
        return found;
    }

    private static List<String> trimmed(List<String> lines) {
        List<String> found = new ArrayList<>();
        for (String line : lines) {
            found.add(line.trim());
        }
        return found;
    }
}
