import java.util.ArrayList;
import java.util.Arrays;
import java.util.List;
import java.util.Random;
import java.util.regex.Matcher;
import java.util.regex.Pattern;

/**
 * Seeded runs of calls on SiloPads and on a model that is written another way: lists, deep copies, a
 * regular expression for the texts, and looks ahead that simply try it out on a copy.
 */
public final class ModelTest {
    private static final int RUNS = 3000;
    /** The document promises 512 calls of an object; the last ones here are for the look at lost tonnes. */
    private static final int CALLS = 490;

    public static void main(String[] args) {
        int[] seen = new int[14];
        for (int run = 0; run < RUNS; run++) {
            String fault = playRun(new Random(7000 + run), seen);
            if (fault != null) {
                System.out.println("run " + run + ": " + fault);
                System.exit(1);
            }
        }
        for (int kind = 0; kind < seen.length; kind++) {
            if (seen[kind] == 0) {
                System.out.println("no call of kind " + kind + " went through");
                System.exit(1);
            }
        }
        System.out.println("ModelTest: all as the model says, by kinds of calls " + Arrays.toString(seen));
    }

    private static String playRun(Random random, int[] seen) {
        SiloPads real = new SiloPads();
        Model model = new Model();
        StringBuilder story = new StringBuilder();
        int calls = 0;
        while (calls < CALLS) {
            int[] a = {pick(random, 4), pick(random, 6), 0, 0};
            int kind = fill(random, a);
            String want = answer(() -> model.call(kind, a));
            String got = answer(() -> real(real, kind, a));
            story.append(kind).append(Arrays.toString(a)).append('=').append(got).append(' ');
            if (!got.equals(want)) {
                return story + "but due is " + want;
            }
            if (real.digest() != model.digest()) {
                return story + "and the states differ";
            }
            calls += kind == 7 ? 1 + typed.length() : 2;
            if (!got.startsWith("throws")) {
                seen[kind]++;
            }
        }
        boolean kept = real.count(4) == real.count(1) + real.count(2) + real.count(3) + real.count(5);
        return kept ? null : story + "and tonnes are lost";
    }

    /** Chooses a call and its arguments, mostly good ones; texts come by chains of appends. */
    private static int fill(Random random, int[] a) {
        int[] kinds = {0, 0, 1, 1, 1, 1, 1, 2, 2, 3, 3, 4, 4, 5, 5, 5, 6, 7, 7, 7, 7, 7, 7, 7, 7, 8, 9, 10, 10, 11, 12, 13, 13};
        int kind = kinds[random.nextInt(kinds.length)];
        switch (kind) {
            case 0:
                a[0] = a[1];
                a[1] = random.nextInt(3) == 0 ? random.nextInt(60) : random.nextInt(8) == 0 ? random.nextInt(903) - 1 : 900;
                a[2] = random.nextInt(4) == 0 ? 0 : random.nextInt(a[1] + 2 < 1 ? 1 : a[1] + 2) - random.nextInt(2);
                break;
            case 1:
                a[2] = random.nextInt(3) == 0 ? random.nextInt(503) : 1 + random.nextInt(60);
                break;
            case 2:
                a[2] = random.nextInt(3) == 0 ? random.nextInt(27) : 1 + random.nextInt(4);
                break;
            case 3:
                a[1] = random.nextInt(12) == 0 ? random.nextInt(7) - 1 : random.nextInt(5);
                break;
            case 5:
                a[0] = random.nextInt(5) == 0 ? random.nextInt(33) : 1 + random.nextInt(3);
                break;
            case 6:
                a[0] = pick(random, 4);
                int[] values = {random.nextInt(18), 1 + random.nextInt(4), 5 + random.nextInt(30), random.nextInt(400)};
                a[1] = random.nextInt(5) == 0 ? random.nextInt(910) - 4 : values[Math.floorMod(a[0], 4)];
                break;
            case 7:
                a[0] = random.nextInt(1 << 20);
                break;
            case 12:
                a[2] = random.nextInt(27) - 1;
                a[3] = random.nextInt(7) - 1;
                break;
            case 13:
                a[1] = random.nextInt(12) - 1;
                a[2] = random.nextInt(5) - 1;
                break;
            default:
                break;
        }
        return kind;
    }

    private static int pick(Random random, int count) {
        return random.nextInt(15) == 0 ? random.nextInt(count + 2) - 1 : random.nextInt(count);
    }

    private static final String[] PIECES = {"0<1:", "1<0:", "2<2:", "3<3:", "0>4:", "1>5:", "2>0:", "3>1:", "+", "+", "1", "2", "30",
        "24", "25", "500", "1;", "2;", "5;", "17;", "20;", "0;", "+1;", "+3;", "0<1:40;", "0>2:3;", "1<1:77;", "1>3:1;", ";", "x", ":", "4"};

    /** A piece that mostly goes on well with what stands, so that long good texts come about, too. */
    private static String piece(String before, int seed) {
        for (int k = 0; k < 6; k++) {
            String piece = PIECES[(seed >> (3 * k)) % PIECES.length];
            if (Model.isBeginning(before + piece) || k == 5) {
                return piece;
            }
        }
        return ";";
    }

    private static int real(SiloPads x, int kind, int[] a) {
        switch (kind) {
            case 0:
                return x.ship(a[0], a[1], a[2]);
            case 1:
                return x.unload(a[0], a[1], a[2]);
            case 2:
                return x.flow(a[0], a[1], a[2]);
            case 3:
                return x.pads(a[0], a[1]);
            case 4:
                return x.shake(a[0]);
            case 5:
                return x.pass(a[0]);
            case 6:
                return x.set(a[0], a[1]);
            case 7:
                int length = 0;
                for (char c : typed.toCharArray()) {
                    length = x.append(c);
                }
                return length;
            case 8:
                return x.clearBuffer();
            case 9:
                return x.firstError();
            case 10:
                return x.play();
            case 11:
                return x.undo();
            case 12:
                return x.ifFlowed(a[0], a[1], a[2], a[3]);
            default:
                return x.layer(a[0], a[1], a[2]);
        }
    }

    /** What the model's append typed last; the real one types the same. */
    private static String typed = "";

    private interface Call {
        int answer();
    }

    private static String answer(Call call) {
        try {
            return "" + call.answer();
        } catch (RuntimeException e) {
            return "throws " + e.getClass().getName();
        }
    }

    private static final class World {
        final List<List<int[]>> silos = new ArrayList<>();
        int[] pads = new int[4];
        boolean[] arch = new boolean[4];
        boolean[] hollow = new boolean[4];
        int[] shakes = new int[4];
        int[][] ships = new int[6][];
        int[] settings = {6, 3, 20, 200};
        int[] counted = new int[6];

        World() {
            for (int k = 0; k < 4; k++) {
                silos.add(new ArrayList<>());
            }
            for (int k = 0; k < 6; k++) {
                ships[k] = new int[] {0, 500};
            }
        }

        World copy() {
            World w = new World();
            for (int k = 0; k < 4; k++) {
                for (int[] layer : silos.get(k)) {
                    w.silos.get(k).add(layer.clone());
                }
            }
            w.pads = pads.clone();
            w.arch = arch.clone();
            w.hollow = hollow.clone();
            w.shakes = shakes.clone();
            for (int k = 0; k < 6; k++) {
                w.ships[k] = ships[k].clone();
            }
            w.settings = settings.clone();
            w.counted = counted.clone();
            return w;
        }

        int tonnes(int silo) {
            return silos.get(silo).stream().mapToInt(layer -> layer[0]).sum();
        }

        int kind(int age) {
            return age > 2 * settings[1] ? 2 : age > settings[1] ? 1 : 0;
        }

        int rate(int silo) {
            if (silos.get(silo).isEmpty()) {
                return 0;
            }
            int p = pads[silo];
            int kind = kind(silos.get(silo).get(0)[1]);
            int[][] table = {{5, 40, 80, 120, 160}, {0, 0, 20, 40, 60}, {0, 0, 0, 0, 10}};
            return table[kind][p];
        }

        int unload(int silo, int ship, int tonnes) {
            List<int[]> layers = silos.get(silo);
            int came = 0;
            boolean ended = false;
            for (int tonne = 0; tonne < tonnes && !ended; tonne++) {
                boolean onTop = !layers.isEmpty() && layers.get(layers.size() - 1)[1] == 0 && layers.get(layers.size() - 1)[0] < 500;
                if (ships[ship][0] == 0 || tonnes(silo) == 1200 || !onTop && layers.size() == 10) {
                    ended = true;
                } else {
                    if (!onTop) {
                        layers.add(new int[] {0, 0});
                        shakes[silo] = 0;
                    }
                    layers.get(layers.size() - 1)[0]++;
                    ships[ship][0]--;
                    came++;
                }
            }
            return came;
        }

        int flow(int silo, int ship, int hours) {
            int came = 0;
            for (int hour = 0; hour < hours; hour++) {
                int out = 0;
                List<int[]> layers = silos.get(silo);
                int rate = rate(silo);
                while (out < rate && !hollow[silo] && layers.get(0)[0] > 0 && ships[ship][0] + out < ships[ship][1]) {
                    layers.get(0)[0]--;
                    out++;
                }
                int dust = out / settings[2];
                counted[1] += dust;
                ships[ship][0] += out - dust;
                came += out - dust;
                if (!layers.isEmpty() && layers.get(0)[0] == 0) {
                    layers.remove(0);
                    hollow[silo] = arch[silo];
                }
            }
            return came;
        }

        int shake(int silo) {
            shakes[silo]++;
            counted[4]++;
            int[] lowest = silos.get(silo).get(0);
            int held = tonnes(silo) - (hollow[silo] ? 0 : lowest[0]);
            lowest[1] = lowest[1] > 0 ? lowest[1] - 1 : 0;
            if (arch[silo] && (held >= settings[3] || shakes[silo] == 3)) {
                arch[silo] = false;
                hollow[silo] = false;
                return 1;
            }
            return 0;
        }

        int pass(int days) {
            int before = counted[5];
            for (int day = 0; day < days; day++) {
                counted[0]++;
                for (int silo = 0; silo < 4; silo++) {
                    for (int[] layer : silos.get(silo)) {
                        layer[1]++;
                    }
                    if (silos.get(silo).size() > 1 && !arch[silo] && kind(silos.get(silo).get(0)[1]) > 0) {
                        arch[silo] = true;
                        hollow[silo] = false;
                        shakes[silo] = 0;
                        counted[5]++;
                    }
                }
            }
            return counted[5] - before;
        }
    }

    private static final class Model {
        private static final Pattern TEXT;

        static {
            String part = "(?:[0-3]<[0-5]:(?:500|[1-4][0-9][0-9]|[1-9][0-9]|[1-9])"
                + "|[0-3]>[0-5]:(?:2[0-4]|1[0-9]|[1-9])|\\+(?:30|[12][0-9]|[1-9]))";
            TEXT = Pattern.compile(part + "(?:;" + part + ")*");
        }

        World now = new World();
        final List<World> saved = new ArrayList<>();
        String buffer = "";

        static boolean isBeginning(String text) {
            Matcher matcher = TEXT.matcher(text);
            return matcher.matches() || matcher.hitEnd();
        }

        private static void index(boolean good) {
            if (!good) {
                throw new IndexOutOfBoundsException();
            }
        }

        private static void argument(boolean good) {
            if (!good) {
                throw new IllegalArgumentException();
            }
        }

        private static void state(boolean good) {
            if (!good) {
                throw new IllegalStateException();
            }
        }

        private static boolean in(int value, int least, int most) {
            return value >= least && value <= most;
        }

        private void save() {
            saved.add(now.copy());
            if (saved.size() > 6) {
                saved.remove(0);
            }
        }

        int call(int kind, int[] a) {
            switch (kind) {
                case 0:
                    index(in(a[0], 0, 5));
                    argument(in(a[1], 0, 900) && in(a[2], 0, a[1]));
                    save();
                    int before = now.ships[a[0]][0];
                    now.ships[a[0]] = new int[] {a[2], a[1]};
                    now.counted[2] += a[2];
                    now.counted[3] += before;
                    return before;
                case 1:
                    index(in(a[0], 0, 3) && in(a[1], 0, 5));
                    argument(in(a[2], 1, 500));
                    save();
                    return now.unload(a[0], a[1], a[2]);
                case 2:
                    index(in(a[0], 0, 3) && in(a[1], 0, 5));
                    argument(in(a[2], 1, 24));
                    save();
                    return now.flow(a[0], a[1], a[2]);
                case 3:
                    index(in(a[0], 0, 3));
                    argument(in(a[1], 0, 4));
                    int[] pads = now.pads.clone();
                    pads[a[0]] = a[1];
                    state(pads[0] + pads[1] + pads[2] + pads[3] <= now.settings[0]);
                    save();
                    int on = now.pads[a[0]];
                    now.pads = pads;
                    return on;
                case 4:
                    index(in(a[0], 0, 3));
                    state(!now.silos.get(a[0]).isEmpty());
                    save();
                    return now.shake(a[0]);
                case 5:
                    argument(in(a[0], 1, 30));
                    save();
                    return now.pass(a[0]);
                case 6:
                    return set(a[0], a[1]);
                case 7:
                    return append(a[0]);
                case 8:
                    int length = buffer.length();
                    buffer = "";
                    return length;
                case 9:
                    return firstError();
                case 10:
                    return play();
                case 11:
                    state(!saved.isEmpty());
                    now = saved.remove(saved.size() - 1);
                    return saved.size();
                case 12:
                    index(in(a[0], 0, 3) && in(a[1], 0, 5));
                    argument(in(a[2], 1, 24) && in(a[3], 0, 4));
                    return ifFlowed(a[0], a[1], a[2], a[3]);
                default:
                    index(in(a[0], 0, 3) && in(a[1], 0, now.silos.get(a[0]).size() - 1));
                    argument(in(a[2], 0, 2));
                    int[] layer = now.silos.get(a[0]).get(a[1]);
                    return a[2] == 0 ? layer[0] : a[2] == 1 ? layer[1] : now.kind(layer[1]);
            }
        }

        private int set(int setting, int value) {
            index(in(setting, 0, 3));
            int[][] ranges = {{0, 16}, {1, 20}, {5, 100}, {0, 900}};
            argument(in(value, ranges[setting][0], ranges[setting][1]));
            state(setting != 0 || now.pads[0] + now.pads[1] + now.pads[2] + now.pads[3] <= value);
            save();
            int before = now.settings[setting];
            now.settings[setting] = value;
            return before;
        }

        private int append(int seed) {
            typed = piece(buffer, seed);
            for (char c : typed.toCharArray()) {
                state(buffer.length() < 60);
                buffer += c;
            }
            return buffer.length();
        }

        private int firstError() {
            for (int k = 0; k < buffer.length(); k++) {
                if (!isBeginning(buffer.substring(0, k + 1))) {
                    return k;
                }
            }
            return buffer.length();
        }

        private int play() {
            argument(TEXT.matcher(buffer).matches());
            save();
            int came = 0;
            for (String part : buffer.split(";")) {
                if (part.startsWith("+")) {
                    now.pass(Integer.parseInt(part.substring(1)));
                } else {
                    int silo = part.charAt(0) - '0';
                    int ship = part.charAt(2) - '0';
                    int number = Integer.parseInt(part.substring(4));
                    came += part.charAt(1) == '<' ? now.unload(silo, ship, number) : now.flow(silo, ship, number);
                }
            }
            buffer = "";
            return came;
        }

        private int ifFlowed(int silo, int ship, int hours, int pads) {
            World w = now.copy();
            w.pads[silo] = pads;
            return w.flow(silo, ship, hours);
        }

        private int whyNot(int silo, int ship) {
            if (now.silos.get(silo).isEmpty()) {
                return 1;
            }
            if (now.hollow[silo]) {
                return 2;
            }
            if (now.ships[ship][0] == now.ships[ship][1]) {
                return 3;
            }
            return now.copy().flow(silo, ship, 1) == 0 ? 4 : 0;
        }

        private int shakesNeeded(int silo) {
            if (!now.arch[silo]) {
                return 0;
            }
            World w = now.copy();
            int shakes = 1;
            while (w.shake(silo) == 0) {
                shakes++;
            }
            return shakes;
        }

        private int nextArch() {
            World w = now.copy();
            for (int day = 1; day <= 60; day++) {
                if (w.pass(1) > 0) {
                    return day;
                }
            }
            return -1;
        }

        private int urgent() {
            int best = -1;
            for (int silo = 3; silo >= 0; silo--) {
                if (!now.silos.get(silo).isEmpty()) {
                    int age = now.silos.get(silo).get(0)[1];
                    int bestAge = best < 0 ? -1 : now.silos.get(best).get(0)[1];
                    if (age > bestAge || age == bestAge && now.tonnes(silo) >= now.tonnes(best)) {
                        best = silo;
                    }
                }
            }
            return best;
        }

        private double softness() {
            double soft = 0;
            double all = 0;
            for (List<int[]> layers : now.silos) {
                for (int[] layer : layers) {
                    all += layer[0];
                    soft += now.kind(layer[1]) == 0 ? layer[0] : 0;
                }
            }
            return all == 0 ? 1.0 : soft / all;
        }

        private List<Long> counts() {
            int inSilos = 0;
            int arches = 0;
            for (int silo = 0; silo < 4; silo++) {
                inSilos += now.tonnes(silo);
                arches += now.arch[silo] ? 1 : 0;
            }
            int inShips = 0;
            for (int[] ship : now.ships) {
                inShips += ship[0];
            }
            int on = now.pads[0] + now.pads[1] + now.pads[2] + now.pads[3];
            int[] c = now.counted;
            int[] s = now.settings;
            List<Long> counts = new ArrayList<>();
            for (int v : new int[] {c[0], inSilos, inShips, c[1], c[2], c[3], on, arches, c[4], c[5], s[0], s[1], s[2], s[3], saved.size()}) {
                counts.add((long) v);
            }
            return counts;
        }

        long digest() {
            List<Long> values = counts();
            for (int silo = 0; silo < 4; silo++) {
                List<int[]> layers = now.silos.get(silo);
                values.add((long) now.tonnes(silo));
                values.add((long) layers.size());
                values.add((long) now.pads[silo]);
                values.add(now.arch[silo] ? 1L : 0L);
                values.add((long) now.shakes[silo]);
                values.add((long) now.rate(silo));
                for (int[] layer : layers) {
                    values.add((long) layer[0]);
                    values.add((long) layer[1]);
                    values.add((long) now.kind(layer[1]));
                }
                values.add((long) shakesNeeded(silo));
                values.add((long) whyNot(silo, 0));
                values.add((long) ifFlowed(silo, 0, 4, 4));
            }
            for (int[] ship : now.ships) {
                values.add((long) ship[0]);
                values.add((long) ship[1]);
            }
            values.add((long) urgent());
            values.add((long) nextArch());
            values.add(Double.doubleToLongBits(softness()));
            values.add((long) buffer.length());
            for (char c : buffer.toCharArray()) {
                values.add((long) c);
            }
            long hash = 3533;
            for (long value : values) {
                hash = 31 * hash + value;
            }
            return hash;
        }
    }
}
