import java.util.ArrayList;
import java.util.Arrays;
import java.util.List;

/**
 * A call that is taken, and all that makes it wrong, in the order in which its promise tells it. Each wrong thing is
 * tried alone and with each other one that can hold at once: the one told first is answered, fault() tells it, and
 * nothing is changed.
 */
final class Wrongs {
    private static final int NOT_AN_ARGUMENT = -1;
    private static final int NULL = 1, CAST = 2, INDEX = 3;

    /** An argument's value (or what there is) by which the call is answered so. */
    private record Wrong(int place, int value, World.Kind kind, long answer, int fault) { }

    private final Due due;
    private final int promise;
    private final String call;
    private final boolean namesFaults;
    private final int[] taken;
    private final List<Wrong> wrongs = new ArrayList<>();

    private Wrongs(Due due, int promise, boolean namesFaults, String call, int[] taken) {
        this.due = due;
        this.promise = promise;
        this.call = call;
        this.namesFaults = namesFaults;
        this.taken = taken;
    }

    /** Of a call that names no faults: fault() stays as it was. */
    static Wrongs ofPlain(Due due, int promise, String call, int... taken) {
        return new Wrongs(due, promise, false, call, taken);
    }

    /** Of a call that names faults: fault() is told anew by it. */
    static Wrongs ofNaming(Due due, int promise, String call, int... taken) {
        return new Wrongs(due, promise, true, call, taken);
    }

    Wrongs refused(long answer, int place, int... values) {
        return with(answer, 0, place, values);
    }

    Wrongs faulted(int fault, int place, int... values) {
        return with(-10 - fault, fault, place, values);
    }

    Wrongs lost(int fault, int place, int... values) {
        return with(TideSeats.LOST, fault, place, values);
    }

    Wrongs where(World.Kind kind, long answer) {
        wrongs.add(new Wrong(NOT_AN_ARGUMENT, 0, kind, answer, 0));
        return this;
    }

    private Wrongs with(long answer, int fault, int place, int... values) {
        for (int value : values) {
            wrongs.add(new Wrong(place, value, World.Kind.SHORE, answer, fault));
        }
        return this;
    }

    /** The call is taken and answered so, and is not with what makes it wrong. */
    void check(long answer) {
        World world = new World(World.Kind.SHORE);
        provoke(world, INDEX);
        String label = label(taken, World.Kind.SHORE);
        due.is(label, world.call(call, taken), answer);
        due.is("fault() of " + label, world.call("fault"), namesFaults ? 0 : INDEX);
        for (int first = 0; first < wrongs.size(); first++) {
            tryWith(wrongs.get(first), wrongs.get(first), wrongs.get(first));
            for (int second = first + 1; second < wrongs.size(); second++) {
                if (wrongs.get(first).place != wrongs.get(second).place) {
                    tryWith(wrongs.get(first), wrongs.get(second), told(wrongs.get(first), wrongs.get(second)));
                }
            }
        }
    }

    /** Of a call that just asks: taken, it changes nothing, too. */
    void checkAsking(long answer) {
        check(answer);
        World world = new World(World.Kind.SHORE);
        String before = world.seen();
        world.call(call, taken);
        isUnchanged(label(taken, World.Kind.SHORE), before, world);
    }

    private String label(int[] args, World.Kind kind) {
        return promise + ": " + call + Arrays.toString(args) + " on " + kind;
    }

    private void isUnchanged(String label, String before, World world) {
        due.is("nothing is changed by " + label, before.equals(world.seen()) ? 1 : 0, 1);
    }

    private static Wrong told(Wrong first, Wrong second) {
        boolean nothingIsNoCast = first.fault == CAST && second.fault == NULL;
        return nothingIsNoCast ? second : first;
    }

    private void tryWith(Wrong one, Wrong other, Wrong told) {
        int[] args = taken.clone();
        World.Kind kind = World.Kind.SHORE;
        for (Wrong wrong : new Wrong[] {one, other}) {
            if (wrong.place == NOT_AN_ARGUMENT) {
                kind = wrong.kind;
            } else {
                args[wrong.place] = wrong.value;
            }
        }
        World world = new World(kind);
        String before = world.seen();
        int earlier = told.fault == INDEX ? NULL : INDEX;
        provoke(world, earlier);
        String label = label(args, kind);
        due.is(label, world.call(call, args), told.answer);
        due.is("fault() of " + label, world.call("fault"), namesFaults ? told.fault : earlier);
        isUnchanged(label, before, world);
    }

    /** Comes to a fault, so that it can be seen whether the next call tells fault() anew. */
    private static void provoke(World world, int fault) {
        world.call("put", fault == NULL ? 3 : 1, 60, 0);
    }
}
