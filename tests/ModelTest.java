import java.lang.reflect.Method;
import java.util.ArrayList;
import java.util.HashMap;
import java.util.List;
import java.util.Map;
import java.util.Random;

/** Runs of calls with drawn arguments, each answered by the class and by Model; the seeds are fixed. */
public final class ModelTest {
    /** Each call with a letter for each argument: see drawn. */
    private static final String[] CALLS = {
        "ofPool Qw", "ofMember Mw", "raise Qd", "sway Md", "seat MQ", "flow s", "calm d", "leap d",
        "washed d", "carried Md", "tide d", "ayes d", "passes d", "law d", "year SLINy",
        "best b", "turn d", "drift SLINdb", "leaps QQk", "elect MQk",
        "reading MdQ", "back s", "heights Q", "kinds M", "streams ", "odds MQb",
        "sheet SLn", "lose S", "put Siv", "cell SiL", "copy SISIN", "tell M", "name M", "as Ms",
        "trace ", "fault ", "many k", "shore SLIN",
    };
    private static final int RUNS = 3000;
    /** What is begun with the last of these, a text that is laid, ends ahead of call 512, behind which all is free. */
    private static final int CALLS_A_RUN = 440;

    private final Random random;
    private final TideSeats seats = new TideSeats();
    private final Model model = new Model();
    private final List<String> history = new ArrayList<>();
    private static final Map<String, Method[]> METHODS = new HashMap<>();

    private ModelTest(int seed) {
        random = new Random(seed);
    }

    public static void main(String[] args) throws Exception {
        for (Method method : TideSeats.class.getDeclaredMethods()) {
            if (java.lang.reflect.Modifier.isPublic(method.getModifiers())) {
                Method other = Model.class.getMethod(method.getName(), method.getParameterTypes());
                METHODS.put(method.getName(), new Method[] {method, other});
            }
        }
        if (METHODS.size() != CALLS.length) {
            System.out.println("not every call is drawn");
            System.exit(1);
        }
        for (int seed = 1; seed <= RUNS; seed++) {
            if (!new ModelTest(seed).goesWell()) {
                System.out.println("seed " + seed);
                System.exit(1);
            }
        }
        System.out.println(RUNS + " runs of calls are as the model answers");
    }

    private boolean goesWell() throws Exception {
        while (history.size() < CALLS_A_RUN) {
            int draw = random.nextInt(40);
            boolean fine;
            if (draw == 0) {
                fine = laysText();
            } else if (draw == 1) {
                fine = laysRow();
            } else if (draw == 2) {
                fine = readsTrue();
            } else {
                String[] call = CALLS[random.nextInt(CALLS.length)].split(" ", -1);
                fine = same(call[0], call[1].chars().mapToObj(this::drawn).toArray());
            }
            if (!fine) {
                return false;
            }
        }
        return true;
    }

    private boolean same(String call, Object... args) throws Exception {
        Method[] both = METHODS.get(call);
        long got = ((Number) both[0].invoke(seats, args)).longValue();
        long due = ((Number) both[1].invoke(model, args)).longValue();
        history.add(call + java.util.Arrays.toString(args) + " " + due);
        if (got != due) {
            history.forEach(System.out::println);
            System.out.println("answered " + got);
        }
        return got == due;
    }

    private int drawn(int letter) {
        if (random.nextInt(200) == 0) {
            int[] wild = {Integer.MIN_VALUE, Integer.MAX_VALUE, -100, 1000, -2, 61, 60, 256, Integer.MIN_VALUE + 50};
            return wild[random.nextInt(wild.length)];
        }
        switch (letter) {
            case 'Q': case 'M': return around(0, 5);
            case 'w': case 'S': return around(0, 3);
            case 'd': return around(0, 9);
            case 's': return around(0, 3);
            case 'L': return around(0, 2);
            case 'I': return random.nextInt(3) > 0 ? 0 : around(0, 20);
            case 'N': return around(0, 20);
            case 'n': return random.nextInt(4) > 0 ? around(0, 20) : around(0, 60);
            case 'i': return around(0, 20);
            case 'k': return around(-1, 5);
            case 'b': return around(0, 1);
            case 'v': return random.nextBoolean() ? around(0, 9) : random.nextInt();
            case 'y': return random.nextInt(3) == 0 ? around(0, 3) : random.nextBoolean() ? around(10, 15) : around(20, 29);
            default: throw new IllegalStateException("letter " + (char) letter);
        }
    }

    private int around(int least, int most) {
        int draw = random.nextInt(30);
        return draw == 0 ? least - 1 : draw == 1 ? most + 1 : least + random.nextInt(most - least + 1);
    }

    private int digit(int least, int most) {
        return '0' + least + random.nextInt(most - least + 1);
    }

    private boolean laysText() throws Exception {
        StringBuilder text = new StringBuilder();
        text.append('r').append((char) digit(1, 3)).append((char) digit(0, 4)).append((char) digit(0, 4));
        int pools = 2 + random.nextInt(5);
        for (int q = 0; q < pools; q++) {
            text.append(',').append((char) digit(1, 9)).append((char) digit(1, 9));
        }
        int members = 1 + random.nextInt(6);
        for (int m = 0; m < members; m++) {
            text.append(';').append("scl".charAt(random.nextInt(3)));
            text.append((char) digit(0, pools - 1)).append((char) digit(0, 9));
        }
        if (random.nextInt(3) == 0) {
            spoil(text);
        }
        int sheet = random.nextInt(4);
        int lane = random.nextInt(3);
        int from = random.nextInt(3);
        boolean fine = same("sheet", sheet, lane, from + text.length());
        for (int i = 0; i < text.length() && fine; i++) {
            fine = same("put", sheet, from + i, (int) text.charAt(i));
        }
        return fine && same("shore", sheet, lane, from, text.length());
    }

    private void spoil(StringBuilder text) {
        int place = random.nextInt(text.length());
        switch (random.nextInt(4)) {
            case 0: text.setLength(place); break;
            case 1: text.setCharAt(place, "rscl,;0123456789x".charAt(random.nextInt(17))); break;
            case 2: text.insert(place, text.substring(place, Math.min(text.length(), place + 4))); break;
            default: text.delete(place, Math.min(text.length(), place + 3));
        }
        text.setLength(Math.min(text.length(), 56));
    }

    /** A row of tides or pools, asked at once, so that few are refused. */
    private boolean laysRow() throws Exception {
        int sheet = random.nextInt(4);
        int lane = random.nextInt(3);
        int n = random.nextInt(6);
        boolean tides = random.nextBoolean();
        boolean fine = same("sheet", sheet, lane, n);
        for (int i = 0; i < n && fine; i++) {
            fine = same("put", sheet, i, tides ? 3 + random.nextInt(7) : random.nextInt(4));
        }
        for (int k = 0; k < 4 && fine; k++) {
            fine = tides ? same("year", sheet, lane, 0, n, drawn('y'))
                : same("drift", sheet, lane, 0, n, random.nextInt(10), random.nextInt(2));
        }
        return fine;
    }

    /** A reading of what is so, so that sets are not empty. */
    private boolean readsTrue() throws Exception {
        int m = random.nextInt(6);
        int h = random.nextInt(10);
        return same("reading", m, h, model.carried(m, h)) && same("heights", random.nextInt(3))
            && same("kinds", m) && same("streams");
    }
}
