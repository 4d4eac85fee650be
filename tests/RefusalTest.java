import java.util.ArrayList;
import java.util.List;

/**
 * "Refused, and nothing changes": every call with numbers on both sides of each bound, in several
 * states. What it must answer is told by the bounds alone; behind every refused call, and behind every
 * call that only asks, all that can be seen of the object is compared with a twin that was not called.
 */
public final class RefusalTest {
    private static final int BAD = -1, STATE = -2, FULL = -3, NO = -1000000;
    private static final int LOOKS = 6;
    // It tells other things than any scene's text, and ends too early.
    private static final String FAULTY = "luu;c3 2;c3 2;p1 1;c";
    private static int wrong = 0;
    private static int asked = 0;
    private static int compared = 0;

    /** How an object came to be, and what bounds its numbers have then. */
    private enum Scene {
        NEW("", 0, 0), CHAIRS("c4 1;c2 3;", 0, 2), CELLS("lub;", 2, 0), RACE("lfbu;c4 1;c9 0;c2 3;p1 7;", 3, 3),
        FULL("lfbud;c4 1;c9 0;c2 3;c1 1;c6 2;p4 7;", 4, 5);

        final String text;
        final int cells;
        final int chairs;

        Scene(String text, int cells, int chairs) {
            this.text = text;
            this.cells = cells;
            this.chairs = chairs;
        }

        boolean hasRace() {
            return cells > 0 && chairs > 0;
        }

        boolean isFull() {
            return this == FULL;
        }
    }

    /** A call of the face, with the least and the most of each of its numbers. */
    private record Call(String name, boolean isAsking, int... bounds) {
        boolean allows(int[] numbers) {
            for (int i = 0; i < numbers.length; i++) {
                if (numbers[i] < bounds[2 * i] || numbers[i] > bounds[2 * i + 1]) return false;
            }
            return true;
        }
    }

    public static void main(String[] args) {
        for (Scene scene : Scene.values()) {
            List<String> twin = looks(scene, null, null);
            for (Call call : calls(scene)) tryAll(scene, call, new int[call.bounds.length / 2], 0, twin);
        }
        System.out.println(asked + " answers asked, " + compared + " compared with a twin, " + wrong + " wrong");
        if (wrong != 0) System.exit(1);
    }

    private static List<Call> calls(Scene scene) {
        int last = scene.chairs - 1;
        List<Call> calls = new ArrayList<>();
        calls.add(new Call("type", false, 0, 255));
        calls.add(new Call("spa", false));
        calls.add(new Call("chair", true, 0, last, 0, 6));
        calls.add(new Call("pusher", true, 0, last));
        calls.add(new Call("cell", true, 0, scene.cells - 1));
        calls.add(new Call("now", true, 0, 6));
        calls.add(new Call("tuesday", false));
        calls.add(new Call("changes", false, 0, last, 0, last));
        calls.add(new Call("sets", false, 0, last, 0, 5));
        calls.add(new Call("greases", false, 0, last, 0, 1));
        calls.add(new Call("undo", false));
        calls.add(new Call("time", true, 0, last));
        calls.add(new Call("place", true, 0, last));
        calls.add(new Call("alone", true, 0, last));
        calls.add(new Call("king", true, 0, last, -1, last));
        calls.add(new Call("fair", true, -1, last));
        calls.add(new Call("odds", true, 0, last, 0, 10, 0, 1));
        calls.add(new Call("times", false, 0, last, 1, 200));
        calls.add(new Call("rate", false, 0, 5, 0, last));
        calls.add(new Call("keep", false, 0, 1));
        calls.add(new Call("back", false, 0, 1));
        calls.add(new Call("count", true, 0, 3));
        calls.add(new Call("trace", true));
        return calls;
    }

    private static void tryAll(Scene scene, Call call, int[] numbers, int filled, List<String> twin) {
        if (filled == numbers.length) {
            tryOne(scene, call, numbers, twin);
            return;
        }
        for (int n : around(call.bounds[2 * filled], call.bounds[2 * filled + 1], numbers.length)) {
            numbers[filled] = n;
            tryAll(scene, call, numbers, filled + 1, twin);
        }
    }

    /** Numbers on both sides of both bounds; those of wide calls are fewer, as they are tried together. */
    private static int[] around(int least, int most, int many) {
        if (many == 3) return new int[] {Integer.MIN_VALUE, least - 1, least, most, most + 1, Integer.MAX_VALUE};
        return new int[] {Integer.MIN_VALUE, least - 256, least - 2, least - 1, least, least + 1, most - 1, most, most + 1,
            most + 2, most + 256, most + 65536, most + (1 << 30), Integer.MAX_VALUE};
    }

    private static void tryOne(Scene scene, Call call, int[] numbers, List<String> twin) {
        String told = scene + ": " + call.name + java.util.Arrays.toString(numbers);
        long got = ask(made(scene), call.name, numbers);
        long want = refusal(scene, call, numbers);
        asked++;
        boolean isRefusal = call.name.equals("rate") ? got == NO : got == BAD || got == STATE || got == FULL;
        if (want != 0 ? got != want : isRefusal) {
            wrong++;
            System.out.println(told + " answered " + got + (want != 0 ? ", due is " + want : ", it is not to be refused"));
        }
        if (want == 0 && !call.isAsking) return;
        compared++;
        List<String> seen = looks(scene, call, numbers);
        for (int way = 0; way < LOOKS; way++) {
            if (seen.get(way).equals(twin.get(way))) continue;
            wrong++;
            System.out.println(told + " changed something, by look " + way + ":\n" + twin.get(way) + "\n" + seen.get(way));
        }
    }

    /** What the call is refused with, by the document's order: BAD, STATE, FULL; 0, if it is not. */
    private static long refusal(Scene scene, Call call, int[] a) {
        if (!call.allows(a)) return call.name.equals("rate") ? NO : BAD;
        switch (call.name) {
            case "changes": return a[0] == a[1] ? BAD : 0;
            case "tuesday", "time", "place", "alone", "king", "fair", "odds": return scene.hasRace() ? 0 : STATE;
            case "times": return !scene.hasRace() ? STATE : scene.isFull() ? FULL : 0;
            case "type": return scene.isFull() ? FULL : 0;
            case "spa": return scene.isFull() ? 0 : -10 - FAULTY.length();
            case "sets": return a[1] == handicap(scene, a[0]) ? STATE : 0;
            case "greases": return (a[1] == 1) == (scene.isFull() && a[0] == 2) ? STATE : 0;
            case "undo": return scene.chairs == 0 ? STATE : 0;
            case "back": return a[0] == 0 && scene.chairs > 0 ? 0 : STATE;
            default: return 0;
        }
    }

    private static int handicap(Scene scene, int c) {
        return c == 0 ? 5 : scene.isFull() && c == 4 ? 3 : 0;
    }

    /** Image 1 is never kept; only of chairs there is anything to be done. */
    private static ChairRegents made(Scene scene) {
        ChairRegents x = new ChairRegents();
        for (char letter : scene.text.toCharArray()) x.type(letter);
        x.spa();
        if (scene.chairs > 0) {
            x.changes(0, 1);
            x.keep(0);
            x.sets(0, 5);
            x.rate(4, 1);
        }
        if (scene.hasRace()) {
            x.times(0, 7);
            x.tuesday();
        }
        if (scene.isFull()) fill(x);
        else for (char letter : FAULTY.toCharArray()) x.type(letter);
        return x;
    }

    /** Ten deeds known and one lost, six that are timed, 120 letters that can be read. */
    private static void fill(ChairRegents x) {
        x.greases(2, 1);
        x.changes(1, 3);
        x.tuesday();
        x.sets(1, 2);
        x.sets(1, 0);
        x.changes(4, 0);
        x.tuesday();
        x.sets(4, 3);
        for (int t = 2; t <= 6; t++) x.times(t - 2, t);
        for (char letter : ("lff;c3 2;" + " ".repeat(111)).toCharArray()) x.type(letter);
    }

    /** All that can be seen of an object behind a call (of a twin: behind none), each way of looking on an object of its own. */
    private static List<String> looks(Scene scene, Call call, int[] numbers) {
        List<String> looks = new ArrayList<>();
        for (int way = 0; way < LOOKS; way++) {
            ChairRegents x = made(scene);
            if (call != null) ask(x, call.name, numbers);
            looks.add(look(x, way));
        }
        return looks;
    }

    private static String look(ChairRegents x, int way) {
        StringBuilder seen = new StringBuilder();
        switch (way) {
            case 0: return seen.append(glance(x)).append(forecast(x)).toString();
            case 1:
                for (int i = 0; i < 11; i++) seen.append(x.undo()).append(glance(x));
                return seen.toString();
            case 2: return seen.append(x.back(0)).append(glance(x)).append(x.undo()).toString();
            case 3: return seen.append(x.back(1)).append(glance(x)).append(x.undo()).toString();
            case 4: return seen.append(x.spa()).append(glance(x)).append(x.clear()).append(glance(x)).toString();
            default:
                seen.append(x.forget()).append(glance(x));
                for (int i = 0; i < 9; i++) seen.append(x.times(0, i + 1)).append(x.now(4)).append(x.now(5));
                return seen.toString();
        }
    }

    private static String glance(ChairRegents x) {
        StringBuilder seen = new StringBuilder("[");
        for (int c = 0; c < x.count(1); c++) {
            for (int what = 2; what <= 6; what++) seen.append(x.chair(c, what)).append(' ');
        }
        for (int what : new int[] {0, 3, 4, 5, 6}) seen.append(x.now(what)).append(' ');
        for (int what = 0; what <= 3; what++) seen.append(x.count(what)).append(' ');
        return seen.append(x.trace()).append(']').toString();
    }

    private static String forecast(ChairRegents x) {
        StringBuilder seen = new StringBuilder("[");
        for (int k = 0; k < x.count(0); k++) seen.append(x.cell(k)).append(' ');
        seen.append(x.now(1)).append(' ').append(x.now(2)).append(' ').append(x.fair(-1));
        for (int c = 0; c < x.count(1); c++) {
            seen.append('\n').append(x.chair(c, 0)).append(' ').append(x.chair(c, 1)).append(' ').append(x.pusher(c));
            seen.append(' ').append(x.time(c)).append(' ').append(x.place(c)).append(' ').append(x.alone(c));
            seen.append(' ').append(x.fair(c)).append(' ').append(x.odds(c, 3, 0)).append(' ').append(x.odds(c, 3, 1));
            for (int k = -1; k < x.count(1); k++) seen.append(' ').append(x.king(c, k));
        }
        return seen.append(']').toString();
    }

    private static long ask(ChairRegents x, String name, int[] a) {
        switch (name) {
            case "type": return x.type(a[0]);
            case "spa": return x.spa();
            case "chair": return x.chair(a[0], a[1]);
            case "pusher": return x.pusher(a[0]);
            case "cell": return x.cell(a[0]);
            case "now": return x.now(a[0]);
            case "tuesday": return x.tuesday();
            case "changes": return x.changes(a[0], a[1]);
            case "sets": return x.sets(a[0], a[1]);
            case "greases": return x.greases(a[0], a[1]);
            case "undo": return x.undo();
            case "time": return x.time(a[0]);
            case "place": return x.place(a[0]);
            case "alone": return x.alone(a[0]);
            case "king": return x.king(a[0], a[1]);
            case "fair": return x.fair(a[0]);
            case "odds": return x.odds(a[0], a[1], a[2]);
            case "times": return x.times(a[0], a[1]);
            case "rate": return x.rate(a[0], a[1]);
            case "keep": return x.keep(a[0]);
            case "back": return x.back(a[0]);
            case "count": return x.count(a[0]);
            case "trace": return x.trace();
            default: throw new IllegalArgumentException(name);
        }
    }
}
