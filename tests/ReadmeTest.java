import java.io.IOException;
import java.nio.file.Files;
import java.nio.file.Path;
import java.util.ArrayList;
import java.util.List;
import java.util.regex.Matcher;
import java.util.regex.Pattern;

/** What README.md says of the class: its example, call by call, and its tables of answers and of faults. */
public final class ReadmeTest {
    private static final Due due = new Due();
    private static final Pattern FAULT = Pattern.compile("\\b(NULL|CAST|INDEX|SIZE)\\b");
    /** What asks of a pool or a member, and what asks of the whole shore, with arguments that would be taken. */
    private static final String[] OF_ONE = {
        "ofPool 0 0", "ofMember 0 0", "raise 0 1", "sway 0 0", "seat 0 0", "carried 0 0", "leaps 0 0 0", "elect 0 0 0",
        "reading 0 0 0", "heights 0", "kinds 0", "tell 0", "name 0", "as 0 0",
    };
    private static final String[] OF_ALL = {
        "flow 1", "calm 0", "leap 0", "washed 0", "tide 0", "ayes 0", "passes 0", "law 0", "best 0", "turn 0", "streams",
        "year 1 2 0 0 0", "drift 2 1 0 0 0 0",
    };

    public static void main(String[] args) throws IOException {
        String readme = Files.readString(Path.of("README.md"));
        example(readme);
        aheadOfAShore();
        answersBelowNothing(readme);
        faults(readme, Files.readString(Path.of("../shared/DOC.md")));
        due.end();
    }

    /** Each call that tells its answer behind it; put of the loop lays the text. */
    private static void example(String readme) {
        String code = readme.substring(readme.indexOf("```java"), readme.indexOf("```\n", readme.indexOf("```java")));
        Matcher told = Pattern.compile("String text = \"(.*)\";").matcher(code);
        String text = told.find() ? told.group(1) : "";
        World world = World.bare();
        int calls = 0;
        Matcher call = Pattern.compile("(?m)^ *x\\.(\\w+)\\((.*)\\); *(?://)? *(-?\\d+)?").matcher(code);
        while (call.find()) {
            if (call.group(3) == null) {
                for (int i = 0; i < text.length(); i++) {
                    world.call("put", 0, i, text.charAt(i));
                }
                continue;
            }
            calls++;
            int[] args = numbers(call.group(2).replace("text.length()", "" + text.length()).split(", "));
            due.is("README: " + call.group().trim(), world.call(call.group(1), args), Long.parseLong(call.group(3)));
        }
        due.is("README: calls of the example", calls >= 10 ? 1 : 0, 1);
    }

    private static int[] numbers(String... words) {
        List<Integer> numbers = new ArrayList<>();
        for (String word : words) {
            if (!word.isEmpty()) {
                numbers.add(Integer.parseInt(word));
            }
        }
        return numbers.stream().mapToInt(n -> n).toArray();
    }

    private static long ask(World world, String row) {
        String[] words = row.split(" ", 2);
        return world.call(words[0], numbers(words.length < 2 ? new String[0] : words[1].split(" ")));
    }

    private static void aheadOfAShore() {
        World world = new World(World.Kind.BARE);
        for (String row : OF_ONE) {
            due.is("README: ahead of a shore, " + row, ask(world, row), TideSeats.UNKNOWN);
        }
        for (String row : OF_ALL) {
            due.is("README: ahead of a shore, " + row, ask(world, row), TideSeats.STATE);
        }
        due.is("README: ahead of a shore, odds", ask(world, "odds 0 0 0"), TideSeats.LOST);
        due.is("README: ahead of a shore, back of 0", ask(world, "back 0"), 0);
        for (int what = 0; what <= 5; what++) {
            due.is("README: ahead of a shore, many " + what, ask(world, "many " + what), 0);
        }
        String[] asEver = {"sheet 3 0 1", "put 3 0 1", "copy 3 0 3 0 1", "cell 3 0 0", "lose 3"};
        for (String row : asEver) {
            due.is("README: ahead of a shore, " + row, ask(world, row), 1);
        }
    }

    /** The rows of the table that begin with a constant's number and name. */
    private static void answersBelowNothing(String readme) {
        String[] names = {"UNKNOWN", "OUTSIDE", "STATE", "FULL", "NONE"};
        int[] values = {TideSeats.UNKNOWN, TideSeats.OUTSIDE, TideSeats.STATE, TideSeats.FULL, TideSeats.NONE};
        for (int k = 0; k < names.length; k++) {
            due.is("README: " + names[k], readme.contains("\n| " + values[k] + " `" + names[k] + "` | ") ? 1 : 0, 1);
        }
        due.is("README: LOST", readme.contains("\n| `LOST`, the least long | `cell`, `odds`: ") ? 1 : 0, 1);
        due.is("README: the faults", readme.contains("1 NULL, 2 CAST, 3 INDEX, 4 SIZE") ? 1 : 0, 1);
    }

    /** Of each promise the faults that it names, in its order, stand in README's row of the call; others have no row. */
    private static void faults(String readme, String doc) {
        Matcher promise = Pattern.compile("## Promise \\d+: (\\w+)\n\n`(?:int|long) \\w+\\(.*\\)`: (.*)\n").matcher(doc);
        int promises = 0;
        int naming = 0;
        while (promise.find()) {
            promises++;
            List<String> named = new ArrayList<>();
            Matcher fault = FAULT.matcher(promise.group(2).replace("nothing is no CAST", ""));
            while (fault.find()) {
                named.add(fault.group());
            }
            String row = "\n| `" + promise.group(1) + "` | ";
            naming += named.isEmpty() ? 0 : 1;
            boolean stands = named.isEmpty() ? !readme.contains(row) : readme.contains(row + String.join(", ", named) + " |\n");
            due.is("README: the faults of " + promise.group(1) + " are " + named, stands ? 1 : 0, 1);
        }
        due.is("README: promises of calls", promises, 38);
        due.is("README: calls that tell a fault", naming, 8);
    }
}
