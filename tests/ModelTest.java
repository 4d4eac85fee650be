import java.util.ArrayList;
import java.util.Arrays;
import java.util.List;
import java.util.Random;

/** Runs of chance calls, from fixed seeds, against a second and slower writing of the document. */
public final class ModelTest {
    private static final int RUNS = 1500;
    private static final int CALLS = 512;

    public static void main(String[] args) {
        int wrong = 0;
        int[] answered = new int[26];
        for (int run = 0; run < RUNS && wrong < 5; run++) {
            if (!agrees(run, answered)) wrong++;
        }
        for (int call = 1; call < 26; call++) {
            if (answered[call] > 0) continue;
            wrong++;
            System.out.println("no run had a good answer of call " + call);
        }
        System.out.println(RUNS + " runs of " + CALLS + " calls, " + wrong + " wrong");
        if (wrong != 0) System.exit(1);
    }

    private static boolean agrees(int seed, int[] answered) {
        Random random = new Random(seed);
        ChairRegents real = new ChairRegents();
        Model model = new Model();
        StringBuilder log = new StringBuilder();
        List<int[]> waiting = new ArrayList<>();
        for (int i = 0; i < CALLS; i++) {
            if (waiting.isEmpty() && (i == 0 || random.nextInt(90) == 0)) waiting.addAll(typed(text(random)));
            int[] call = waiting.isEmpty() ? chanceCall(random) : waiting.remove(0);
            long got = ask(real, call);
            long want = model.ask(call);
            log.append(Arrays.toString(call)).append(" = ").append(got).append('\n');
            if (got != want) {
                System.out.println("seed " + seed + ":\n" + log + "due is " + want);
                return false;
            }
            if (got >= 0) answered[call[0]]++;
        }
        return true;
    }

    private static List<int[]> typed(String text) {
        List<int[]> calls = new ArrayList<>();
        calls.add(new int[] {2, 0, 0, 0});
        for (char letter : text.toCharArray()) calls.add(new int[] {1, letter, 0, 0});
        calls.add(new int[] {3, 0, 0, 0});
        return calls;
    }

    private static String text(Random random) {
        List<String> items = new ArrayList<>();
        if (random.nextInt(12) > 0) items.add(promenade(random));
        int chairs = random.nextInt(15) == 0 ? random.nextInt(7) : 1 + random.nextInt(5);
        for (int c = 0; c < chairs; c++) {
            int at = Math.max(0, items.size() - random.nextInt(2));
            items.add(at, "c" + gap(random) + (1 + random.nextInt(9)) + " " + random.nextInt(4) + gap(random) + ";");
        }
        int strengths = random.nextInt(7);
        for (int p = 0; p < strengths && chairs > 0; p++) {
            int strength = random.nextBoolean() ? 1 + random.nextInt(9) : 1 + 4 * random.nextInt(3);
            items.add("p" + gap(random) + random.nextInt(chairs) + " " + strength + gap(random) + ";");
        }
        String text = String.join("", items);
        return random.nextInt(4) == 0 ? spoilt(text, random) : text;
    }

    private static String promenade(Random random) {
        StringBuilder line = new StringBuilder("l");
        int cells = random.nextInt(20) == 0 ? random.nextInt(20) : 1 + random.nextInt(16);
        String from = random.nextBoolean() ? "fudb" : random.nextBoolean() ? "bbbf" : "u";
        for (int k = 0; k < cells; k++) line.append(gap(random)).append(from.charAt(random.nextInt(from.length())));
        return line.append(';').toString();
    }

    private static String gap(Random random) {
        return random.nextInt(8) == 0 ? " " : "";
    }

    private static String spoilt(String text, Random random) {
        StringBuilder spoilt = new StringBuilder(text);
        String letters = "fudblcp;0123456789  x-\t\0" + (char) 255;
        int times = 1 + random.nextInt(2);
        for (int i = 0; i < times; i++) {
            int at = random.nextInt(spoilt.length() + 1);
            char letter = letters.charAt(random.nextInt(letters.length()));
            int way = random.nextInt(4);
            if (way == 0) spoilt.insert(at, letter);
            else if (way == 1 && at < spoilt.length()) spoilt.setCharAt(at, letter);
            else if (way == 2 && at < spoilt.length()) spoilt.deleteCharAt(at);
            else if (way == 3) spoilt.setLength(at);
        }
        return spoilt.toString();
    }

    private static int chanceNumber(Random random, int least, int most) {
        int way = random.nextInt(60);
        if (way == 0) return random.nextBoolean() ? Integer.MIN_VALUE : Integer.MAX_VALUE;
        if (way == 1) return least - 1;
        if (way == 2) return most + 1;
        return least + random.nextInt(most - least + 1);
    }

    private static int[] chanceCall(Random random) {
        int call = 1 + random.nextInt(25);
        if (call < 4 && random.nextInt(30) > 0) call = 8 + random.nextInt(5);
        int c = chanceNumber(random, 0, random.nextInt(5));
        switch (call) {
            case 1: return new int[] {call, chanceNumber(random, 0, 255), 0, 0};
            case 4: return new int[] {call, c, chanceNumber(random, 0, 6), 0};
            case 6: return new int[] {call, chanceNumber(random, 0, 15), 0, 0};
            case 7: return new int[] {call, chanceNumber(random, 0, 6), 0, 0};
            case 9: return new int[] {call, c, chanceNumber(random, 0, 4), 0};
            case 10: return new int[] {call, c, chanceNumber(random, 0, 5), 0};
            case 11: return new int[] {call, c, chanceNumber(random, 0, 1), 0};
            case 16: return new int[] {call, c, chanceNumber(random, -1, 4), 0};
            case 17: return new int[] {call, chanceNumber(random, -1, 4), 0, 0};
            case 18: return new int[] {call, c, chanceNumber(random, 0, 10), chanceNumber(random, 0, 1)};
            case 19: return new int[] {call, c, chanceNumber(random, 1, random.nextInt(4) == 0 ? 200 : 8), 0};
            case 21: return new int[] {call, chanceNumber(random, 0, 5), c, 0};
            case 22, 23: return new int[] {call, chanceNumber(random, 0, 1), 0, 0};
            case 24: return new int[] {call, chanceNumber(random, 0, 3), 0, 0};
            default: return new int[] {call, c, 0, 0};
        }
    }

    private static long ask(ChairRegents x, int[] call) {
        int a = call[1], b = call[2], d = call[3];
        switch (call[0]) {
            case 1: return x.type(a);
            case 2: return x.clear();
            case 3: return x.spa();
            case 4: return x.chair(a, b);
            case 5: return x.pusher(a);
            case 6: return x.cell(a);
            case 7: return x.now(a);
            case 8: return x.tuesday();
            case 9: return x.changes(a, b);
            case 10: return x.sets(a, b);
            case 11: return x.greases(a, b);
            case 12: return x.undo();
            case 13: return x.time(a);
            case 14: return x.place(a);
            case 15: return x.alone(a);
            case 16: return x.king(a, b);
            case 17: return x.fair(a);
            case 18: return x.odds(a, b, d);
            case 19: return x.times(a, b);
            case 20: return x.forget();
            case 21: return x.rate(a, b);
            case 22: return x.keep(a);
            case 23: return x.back(a);
            case 24: return x.count(a);
            default: return x.trace();
        }
    }

    /** A thing as it is now; deeds and images are whole copies of it. */
    private static final class State {
        int[] pusher = new int[0], handicap = new int[0], grease = new int[0], regent = new int[0];

        State copy() {
            State s = new State();
            s.pusher = pusher.clone();
            s.handicap = handicap.clone();
            s.grease = grease.clone();
            s.regent = regent.clone();
            return s;
        }

        int weeks() {
            return Arrays.stream(regent).sum();
        }
    }

    private record Token(String text, int place) {
    }

    private static final class Fault extends RuntimeException {
        private static final long serialVersionUID = 1;
        final int place;

        Fault(int place) {
            this.place = place;
        }
    }

    private static final class Model {
        String text = "";
        String line = "";
        List<int[]> chairs = new ArrayList<>();
        int[] strength = new int[0];
        State state = new State();
        List<State> past = new ArrayList<>();
        State[] images = new State[2];
        List<int[]> timed = new ArrayList<>();
        long trace = 0;

        long ask(int[] call) {
            int a = call[1], b = call[2], d = call[3];
            boolean ok = a >= 0 && a < chairs.size();
            boolean race = !line.isEmpty() && !chairs.isEmpty();
            switch (call[0]) {
                case 1:
                    if (a < 0 || a > 255) return -1;
                    if (text.length() == 120) return -3;
                    text += (char) a;
                    return text.length();
                case 2:
                    int had = text.length();
                    text = "";
                    return had;
                case 3: return spa();
                case 4: return !ok || b < 0 || b > 6 ? -1 : chair(a, b);
                case 5: return ok ? strength[a] : -1;
                case 6: return a >= 0 && a < line.length() ? cost(a) : -1;
                case 7: return now(a, race);
                case 8:
                    if (!race || state.weeks() == 999) return -2;
                    remember();
                    int first = order(state.pusher, strength).get(0);
                    state.regent[first]++;
                    return first;
                case 9:
                    if (!ok || b < 0 || b >= chairs.size() || a == b) return -1;
                    remember();
                    int was = state.pusher[a];
                    state.pusher[a] = state.pusher[b];
                    state.pusher[b] = was;
                    return state.pusher[a];
                case 10:
                    if (!ok || b < 0 || b > 5) return -1;
                    if (state.handicap[a] == b) return -2;
                    remember();
                    int old = state.handicap[a];
                    state.handicap[a] = b;
                    return old;
                case 11:
                    if (!ok || b != 0 && b != 1) return -1;
                    if (state.grease[a] == b) return -2;
                    remember();
                    state.grease[a] = b;
                    return Arrays.stream(state.grease).sum();
                case 12:
                    if (past.isEmpty()) return -2;
                    state = past.remove(past.size() - 1);
                    return past.size();
                case 13: return !ok ? -1 : !race ? -2 : race(gains(state.pusher, strength), state.handicap)[a];
                case 14: return !ok ? -1 : !race ? -2 : order(state.pusher, strength).get(a);
                case 15: return !ok ? -1 : !race ? -2 : alone(a, state.handicap[a], state.grease[a]);
                case 16: return !ok || b < -1 || b >= chairs.size() ? -1 : !race ? -2 : king(a, b);
                case 17: return a < -1 || a >= chairs.size() ? -1 : !race ? -2 : fair(a);
                case 18: return !ok || b < 0 || b > 10 || d < 0 || d > 1 ? -1 : !race ? -2 : odds(a, b, d);
                case 19:
                    if (!ok || b < 1 || b > 200) return -1;
                    if (!race) return -2;
                    if (timed.size() == 6) return -3;
                    timed.add(new int[] {a, b});
                    return timed.size();
                case 20:
                    int many = timed.size();
                    timed.clear();
                    return many;
                case 21: return b < 0 || b >= chairs.size() || a < 0 || a > 5 ? -1000000 : rate(a, b);
                case 22:
                    if (a < 0 || a > 1) return -1;
                    images[a] = state.copy();
                    return state.weeks();
                case 23:
                    if (a < 0 || a > 1) return -1;
                    if (images[a] == null) return -2;
                    state = images[a].copy();
                    past.clear();
                    return state.weeks();
                case 24:
                    if (a < 0 || a > 3) return -1;
                    return new int[] {line.length(), chairs.size(), timed.size(), text.length()}[a];
                default: return trace;
            }
        }

        void remember() {
            past.add(state.copy());
            if (past.size() > 10) past.remove(0);
        }

        // ---- the text

        List<Token> tokens() {
            List<Token> tokens = new ArrayList<>();
            java.util.regex.Matcher m = java.util.regex.Pattern.compile("[0-9]+|[^ ]", java.util.regex.Pattern.DOTALL).matcher(text);
            while (m.find()) tokens.add(new Token(m.group(), m.start()));
            tokens.add(new Token("", text.length()));
            return tokens;
        }

        String take(List<Token> tokens, String pattern) {
            Token token = tokens.get(0);
            if (!token.text.matches(pattern)) throw new Fault(token.place);
            tokens.remove(0);
            return token.text;
        }

        int spa() {
            List<Token> tokens = tokens();
            String newLine = "";
            List<int[]> newChairs = new ArrayList<>();
            List<int[]> newStrengths = new ArrayList<>();
            int items = 0;
            try {
                while (tokens.size() > 1) {
                    String starts = (newLine.isEmpty() ? "l" : "") + (newChairs.size() < 5 ? "c" : "") + "p";
                    String kind = take(tokens, "[" + starts + "]");
                    if (kind.equals("l")) {
                        newLine += take(tokens, "[fudb]");
                        while (!tokens.get(0).text.equals(";")) {
                            if (newLine.length() == 16) throw new Fault(tokens.get(0).place);
                            newLine += take(tokens, "[fudb]");
                        }
                    } else if (kind.equals("c")) {
                        int weight = Integer.parseInt(take(tokens, "[1-9]"));
                        newChairs.add(new int[] {weight, Integer.parseInt(take(tokens, "[0-3]"))});
                    } else {
                        if (newChairs.isEmpty()) throw new Fault(tokens.get(0).place);
                        int p = Integer.parseInt(take(tokens, "[0-" + (newChairs.size() - 1) + "]"));
                        newStrengths.add(new int[] {p, Integer.parseInt(take(tokens, "[1-9]"))});
                    }
                    take(tokens, ";");
                    items++;
                }
            } catch (Fault fault) {
                return -10 - fault.place;
            }
            begin(newLine, newChairs, newStrengths);
            return items;
        }

        void begin(String newLine, List<int[]> newChairs, List<int[]> newStrengths) {
            line = newLine;
            chairs = newChairs;
            int n = chairs.size();
            strength = new int[n];
            Arrays.fill(strength, 5);
            for (int[] s : newStrengths) strength[s[0]] = s[1];
            state = new State();
            state.pusher = new int[n];
            for (int c = 0; c < n; c++) state.pusher[c] = c;
            state.handicap = new int[n];
            state.grease = new int[n];
            state.regent = new int[n];
            past.clear();
            timed.clear();
            images = new State[2];
            text = "";
        }

        // ---- what is asked

        int cost(int k) {
            return switch (line.charAt(k)) {
                case 'f' -> 4;
                case 'u' -> 8;
                case 'd' -> 2;
                default -> 6;
            };
        }

        int gain(int c, int by, int grease) {
            int gain = 2 * by - chairs.get(c)[0];
            return (gain < 1 ? 1 : gain) + 3 * grease;
        }

        int[] gains(int[] pushers, int[] strengths) {
            int[] gains = new int[chairs.size()];
            for (int c = 0; c < gains.length; c++) gains[c] = gain(c, strengths[pushers[c]], state.grease[c]);
            return gains;
        }

        int chair(int c, int what) {
            int[] answers = {chairs.get(c)[0], chairs.get(c)[1], state.pusher[c], state.handicap[c],
                state.grease[c], gain(c, strength[state.pusher[c]], state.grease[c]), state.regent[c]};
            return answers[what];
        }

        /** The times; the cells hold lists of chairs, and the one behind the last holds who is in. */
        int[] race(int[] gains, int[] handicaps) {
            int n = gains.length;
            List<List<Integer>> cells = new ArrayList<>();
            for (int k = 0; k <= line.length(); k++) cells.add(new ArrayList<>());
            for (int c = 0; c < n; c++) cells.get(0).add(c);
            int[] points = new int[n];
            int[] times = new int[n];
            List<Integer> rail = cells.get(line.length());
            for (int minute = 1; rail.size() < n; minute++) {
                for (Integer c = 0; c < n; c++) {
                    if (times[c] > 0 || minute <= handicaps[c]) continue;
                    points[c] += gains[c];
                    int at = 0;
                    while (!cells.get(at).contains(c)) at++;
                    while (at < line.length() && points[c] >= cost(at)) {
                        boolean bend = at + 1 < line.length() && line.charAt(at + 1) == 'b';
                        if (bend && !cells.get(at + 1).isEmpty()) {
                            points[c] = cost(at);
                            break;
                        }
                        points[c] -= cost(at);
                        cells.get(at).remove(c);
                        cells.get(++at).add(c);
                    }
                    if (at == line.length()) times[c] = minute;
                }
            }
            return times;
        }

        List<Integer> order(int[] pushers, int[] strengths) {
            int[] times = race(gains(pushers, strengths), state.handicap);
            List<Integer> order = new ArrayList<>();
            for (int c = 0; c < times.length; c++) order.add(c);
            order.sort((x, y) -> times[x] != times[y] ? times[x] - times[y] : x - y);
            return order;
        }

        int alone(int c, int handicap, int grease) {
            int gain = gain(c, strength[state.pusher[c]], grease);
            return race(new int[] {gain}, new int[] {handicap})[0];
        }

        int king(int c, int k) {
            int n = chairs.size();
            int[] best = null;
            int fewest = 99;
            for (int code = 0; code < Math.pow(n, n); code++) {
                int[] way = digits(code, n, n);
                if (Arrays.stream(way).distinct().count() < n) continue;
                int changed = 0;
                for (int i = 0; i < n; i++) changed += way[i] == state.pusher[i] ? 0 : 1;
                if (changed >= fewest || order(way, strength).get(0) != c) continue;
                fewest = changed;
                best = way;
            }
            return best == null ? -9 : k == -1 ? fewest : best[k];
        }

        /** The digits of a number, the first one the highest. */
        int[] digits(int code, int base, int length) {
            int[] digits = new int[length];
            for (int i = length - 1; i >= 0; i--) {
                digits[i] = code % base;
                code /= base;
            }
            return digits;
        }

        int fair(int c) {
            int n = chairs.size();
            int[] bare = new int[n];
            for (int i = 0; i < n; i++) bare[i] = alone(i, 0, state.grease[i]);
            int[] best = null;
            int bestSpread = 9999;
            int bestSum = 0;
            for (int code = 0; code < Math.pow(6, n); code++) {
                int[] handicaps = digits(code, 6, n);
                int sum = Arrays.stream(handicaps).sum();
                int least = 9999;
                int most = 0;
                for (int i = 0; i < n; i++) {
                    least = Math.min(least, bare[i] + handicaps[i]);
                    most = Math.max(most, bare[i] + handicaps[i]);
                }
                int spread = most - least;
                if (spread > bestSpread || spread == bestSpread && sum >= bestSum) continue;
                bestSpread = spread;
                bestSum = sum;
                best = handicaps;
            }
            return c == -1 ? bestSpread : best[c];
        }

        int odds(int c, int x, int what) {
            int n = chairs.size();
            int upper = 0;
            for (int code = 0; code < 1 << n; code++) {
                int[] ill = digits(code, 2, n);
                int[] strengths = strength.clone();
                int weight = 1;
                for (int p = 0; p < n; p++) {
                    weight *= ill[p] == 1 ? x : 10 - x;
                    if (ill[p] == 1) strengths[p] = 1;
                }
                if (order(state.pusher, strengths).get(0) == c) upper += weight;
            }
            int lower = (int) Math.pow(10, n);
            for (int by = 2; by <= lower; by++) {
                while (upper % by == 0 && lower % by == 0) {
                    upper /= by;
                    lower /= by;
                }
            }
            return what == 0 ? upper : lower;
        }

        int now(int what, boolean race) {
            switch (what) {
                case 0: return state.weeks();
                case 1: return race ? order(state.pusher, strength).get(0) : -9;
                case 2:
                    int kings = 0;
                    for (int c = 0; race && c < chairs.size(); c++) kings += king(c, -1) == -9 ? 0 : 1 << c;
                    return kings;
                case 3:
                    int[] weeks = new int[4];
                    for (int c = 0; c < chairs.size(); c++) weeks[chairs.get(c)[1]] += state.regent[c];
                    int most = Arrays.stream(weeks).max().getAsInt();
                    int ruled = 0;
                    while (weeks[ruled] < most) ruled++;
                    return most == 0 ? -9 : ruled;
                case 4:
                case 5: return suspects(what == 4);
                case 6: return past.size();
                default: return -1;
            }
        }

        int suspects(boolean guilty) {
            int bits = 0;
            for (int c = 0; c < chairs.size(); c++) {
                int all = 0;
                int dry = 0;
                int greased = 0;
                for (int[] t : timed) {
                    if (t[0] != c) continue;
                    all++;
                    if (t[1] == alone(c, state.handicap[c], 0)) dry++;
                    if (t[1] == alone(c, state.handicap[c], 1)) greased++;
                }
                boolean is = guilty ? greased == all && dry < all : greased < all && dry < all;
                if (all > 0 && is) bits += 1 << c;
            }
            return bits;
        }

        int rate(int kind, int c) {
            trace += new int[] {1, 10, 100, 1000, 10000, 100000}[kind];
            if (kind == 0) return chairs.get(c)[0];
            int up = rate(new int[] {0, 0, 0, 1, 2, 0}[kind], c);
            return new int[] {0, up + state.handicap[c], up - chair(c, 5), 2 * up, up + c, up + state.weeks()}[kind];
        }
    }
}
