import java.math.BigInteger;
import java.util.ArrayList;
import java.util.List;
import java.util.Random;

/** Runs of random calls, each answer beside that of a model that counts every fall instead of reckoning. */
public final class ModelTests {
    private static final int RUNS = 1000, CALLS = 250;
    private static final String KINDS = "dhtlb";

    public static void main(String[] args) {
        for (int run = 0; run < RUNS; run++) {
            String told = new Run(run).play();
            if (told != null) {
                System.out.println("run " + run + ": " + told);
                System.exit(1);
            }
        }
        System.out.println("all answers are as the model's");
    }

    /** One object and its model, called alike. */
    private static final class Run {
        private final Random random;
        private final KingdomAtDice real = new KingdomAtDice();
        private final Model model = new Model();
        private final List<String> calls = new ArrayList<>();

        Run(int seed) {
            random = new Random(seed);
        }

        String play() {
            while (calls.size() < CALLS) {
                int before = calls.size();
                String told = random.nextInt(25) == 0 ? writeHall() : callAny();
                if (told != null) {
                    return told + "\n  behind " + calls.subList(Math.max(0, before - 30), calls.size());
                }
            }
            return null;
        }

        private String writeHall() {
            StringBuilder text = new StringBuilder();
            int things = 2 + random.nextInt(5);
            for (int i = 0; i < things; i++) {
                char sort = "jbs".charAt(random.nextInt(text.indexOf("s") < 0 ? 3 : 2));
                text.append(i == 0 ? "" : ",").append(sort).append(1 + random.nextInt(9));
            }
            text.append(';').append(anyKind()).append(anyKind());
            if (random.nextInt(4) == 0) {
                text.setCharAt(random.nextInt(text.length()), "jbs19,;dhtl0x".charAt(random.nextInt(13)));
            }
            if (random.nextInt(8) == 0) {
                text.append(anyKind());
            }
            String told = check("blank");
            for (int i = 0; i < text.length() && told == null; i++) {
                told = check("letter", text.charAt(i));
            }
            told = told == null ? check("fault") : told;
            return told == null ? check("hall") : told;
        }

        private char anyKind() {
            return KINDS.charAt(random.nextInt(5));
        }

        private String callAny() {
            switch (random.nextInt(30)) {
                case 0: return check("letter", random.nextInt(3) == 0 ? odd() : "jbs123,;dhtlb".charAt(random.nextInt(13)));
                case 1: return random.nextInt(3) == 0 ? check("blank") : check("fault");
                case 2: return check("hall");
                case 3: return check("thing", small(6), small(6));
                case 4: return check("dice", small(2), small(4));
                case 5: return check("as", small(2), small(5));
                case 6: return check("ways", small(2), sum());
                case 7: return check("odds", small(6));
                case 8: case 9: return check("back", small(6), 1 + small(5), small(2));
                case 10: return check("laws", small(4), small(2));
                case 11: case 12: return check("see", sum());
                case 13: return random.nextInt(4) == 0 ? check("forget") : check("see", 2 * (1 + random.nextInt(6)));
                case 14: return check("which");
                case 15: return check("likely");
                case 16: return check("halls", 1 + small(60), random.nextInt(9) == 0 ? odd() : random.nextInt() & 0x7fffffff, small(3));
                case 17: return random.nextInt(2) == 0 ? check("image") : check("restore");
                case 18: return check("count", small(9));
                default: return check("play", small(6), random.nextInt(2) == 0 ? -1 : small(6), sum(), sum());
            }
        }

        private int small(int bound) {
            return random.nextInt(12) == 0 ? odd() : random.nextInt(bound);
        }

        private int sum() {
            return random.nextInt(12) == 0 ? odd() : 2 + random.nextInt(11);
        }

        private int odd() {
            int[] odd = {-1, -2, 0, 1, 6, 7, 13, 127, Integer.MIN_VALUE, Integer.MAX_VALUE, Integer.MIN_VALUE + 1};
            return odd[random.nextInt(odd.length)];
        }

        private String check(String name, int... a) {
            calls.add(name + java.util.Arrays.toString(a));
            long got = call(name, a);
            long want = model.call(name, a);
            if (got != want) {
                return "the last answered " + got + ", the model " + want;
            }
            long digest = real.digest();
            return digest == model.digest() ? null : "digest() answered " + digest + ", the model " + model.digest();
        }

        private long call(String name, int[] a) {
            switch (name) {
                case "letter": return real.letter(a[0]);
                case "blank": return real.blank();
                case "fault": return real.fault();
                case "hall": return real.hall();
                case "thing": return real.thing(a[0], a[1]);
                case "dice": return real.dice(a[0], a[1]);
                case "as": return real.as(a[0], a[1]);
                case "ways": return real.ways(a[0], a[1]);
                case "play": return real.play(a[0], a[1], a[2], a[3]);
                case "odds": return real.odds(a[0]);
                case "back": return real.back(a[0], a[1], a[2]);
                case "laws": return real.laws(a[0], a[1]);
                case "see": return real.see(a[0]);
                case "forget": return real.forget();
                case "which": return real.which();
                case "likely": return real.likely();
                case "halls": return real.halls(a[0], a[1], a[2]);
                case "image": return real.image();
                case "restore": return real.restore();
                case "count": return real.count(a[0]);
                default: throw new IllegalStateException(name);
            }
        }
    }

    /** The document, as told, without a thought of room or speed. */
    private static final class Model {
        private static final int UNKNOWN = -101, OUTSIDE = -102, STATE = -103, FULL = -104;
        private String page = "";
        private String hall = null;
        private int read = 0;
        private State now = new State();
        private State image = null;

        private static final class State {
            final List<Integer> seen = new ArrayList<>();
            int[][] things = new int[0][];
            int gold = 0;
            int throwsMade = 0;

            State copy() {
                State s = new State();
                s.seen.addAll(seen);
                s.things = new int[things.length][];
                for (int i = 0; i < things.length; i++) {
                    s.things[i] = things[i].clone();
                }
                s.gold = gold;
                s.throwsMade = throwsMade;
                return s;
            }
        }

        long call(String name, int[] a) {
            switch (name) {
                case "letter": return letter(a[0]);
                case "blank": {
                    int had = page.length();
                    page = "";
                    return had;
                }
                case "fault": return fault();
                case "hall": return readHall();
                case "thing": return !isThing(a[0]) ? UNKNOWN : !in(a[1], 0, 5) ? OUTSIDE : now.things[a[0]][a[1]];
                case "dice": return !isWho(a[0]) ? UNKNOWN : !in(a[1], 0, 3) ? OUTSIDE : dice(a[0], a[1]);
                case "as": return !isWho(a[0]) ? UNKNOWN : !in(a[1], 0, 4) ? OUTSIDE : as(a[0], a[1]);
                case "ways": return !isWho(a[0]) ? UNKNOWN : !in(a[1], 2, 12) ? OUTSIDE : many(falls(kind(a[0])), a[1]);
                case "play": return play(a[0], a[1], a[2], a[3]);
                case "odds": return !in(a[0], 0, 5) ? OUTSIDE : hall == null ? STATE : odds(a[0]);
                case "back": return !isThing(a[0]) ? UNKNOWN : !in(a[1], 1, 5) || !in(a[2], 0, 1) ? OUTSIDE
                    : now.things[a[0]][2] == 0 ? STATE : back(a[0], a[1], a[2]);
                case "laws": return !in(a[0], 0, 3) || !in(a[1], 0, 1) ? OUTSIDE : hall == null ? STATE : laws(a[0], a[1]);
                case "see": {
                    if (!in(a[0], 2, 12)) {
                        return OUTSIDE;
                    }
                    if (now.seen.size() == 8) {
                        return FULL;
                    }
                    now.seen.add(a[0]);
                    return now.seen.size();
                }
                case "forget": {
                    int had = now.seen.size();
                    now.seen.clear();
                    return had;
                }
                case "which": return which();
                case "likely": return likely();
                case "halls": return !in(a[0], 1, 60) || a[1] < 0 || !in(a[2], 0, 2) ? OUTSIDE
                    : hall == null ? STATE : halls(a[0], a[1], a[2]);
                case "image": {
                    if (hall == null) {
                        return STATE;
                    }
                    image = now.copy();
                    return now.throwsMade;
                }
                case "restore": {
                    if (image == null) {
                        return STATE;
                    }
                    now = image.copy();
                    return now.throwsMade;
                }
                case "count": return count(a[0]);
                default: throw new IllegalStateException(name);
            }
        }

        private static boolean in(int number, int least, int greatest) {
            return number >= least && number <= greatest;
        }

        private boolean isThing(int thing) {
            return in(thing, 0, now.things.length - 1);
        }

        private boolean isWho(int who) {
            return hall != null && in(who, 0, 1);
        }

        private int letter(int code) {
            if (!in(code, 1, 126)) {
                return OUTSIDE;
            }
            if (page.length() == 22) {
                return FULL;
            }
            page += (char) code;
            return page.length();
        }

        private static boolean isHall(String text) {
            return text.matches("(?s)([jbs][1-9],){1,5}[jbs][1-9];[dhtlb]{2}") && !text.matches("(?s).*s.*s.*");
        }

        /** Whether some hall begins so: if one does, it can end as one of the plainest does. */
        private static boolean begins(String text) {
            String plain = "j1,j1;dd";
            for (int from = 0; from <= plain.length(); from++) {
                if (isHall(text + plain.substring(from))) {
                    return true;
                }
            }
            return false;
        }

        private int fault() {
            for (int place = 0; place < page.length(); place++) {
                if (!begins(page.substring(0, place + 1))) {
                    return place;
                }
            }
            return page.length();
        }

        private int readHall() {
            if (!isHall(page)) {
                return STATE;
            }
            hall = page;
            page = "";
            read++;
            image = null;
            now = new State();
            String[] texts = hall.split(";")[0].split(",");
            now.things = new int[texts.length][];
            for (int i = 0; i < texts.length; i++) {
                now.things[i] = new int[] {"jbs".indexOf(texts[i].charAt(0)), texts[i].charAt(1) - '0', 0, -1, -1, 0};
            }
            return texts.length;
        }

        private int kind(int who) {
            return KINDS.indexOf(hall.charAt(hall.length() - 2 + who));
        }

        /** The sum of each way in which such dice fall. */
        private static List<Integer> falls(int kind) {
            List<Integer> sums = new ArrayList<>();
            int[][] ends = {{1, 6}, {2, 6}, {1, 6}, {1, 3}, {4, 6}};
            for (int one = ends[kind][0]; one <= ends[kind][1]; one++) {
                for (int other = ends[kind][0]; other <= ends[kind][1]; other++) {
                    if (kind != 2 || one == other) {
                        sums.add(one + other);
                    }
                }
            }
            return sums;
        }

        private static int many(List<Integer> sums, int sum) {
            int many = 0;
            for (int s : sums) {
                many += s == sum ? 1 : 0;
            }
            return many;
        }

        private int dice(int who, int what) {
            List<Integer> sums = falls(kind(who));
            return new int[] {kind(who), java.util.Collections.min(sums), java.util.Collections.max(sums), sums.size()}[what];
        }

        private int as(int who, int kind) {
            return kind == 0 || kind == kind(who) || kind == 1 && kind(who) == 4 ? who : -1;
        }

        private int play(int stake, int prize, int king, int cousin) {
            if (!isThing(stake) || prize != -1 && !isThing(prize)) {
                return UNKNOWN;
            }
            if (many(falls(kind(0)), king) == 0 || many(falls(kind(1)), cousin) == 0) {
                return OUTSIDE;
            }
            int[] staked = now.things[stake];
            if (staked[2] != 0 || prize != -1 && (now.things[prize][2] != 1 || now.things[prize][1] > staked[1])) {
                return STATE;
            }
            if (now.throwsMade == 30) {
                return FULL;
            }
            boolean selfIsLost = false;
            for (int[] thing : now.things) {
                selfIsLost |= thing[0] == 2 && thing[2] == 1;
            }
            now.throwsMade++;
            if (king < cousin) {
                staked[2] = 1;
                staked[3] = now.throwsMade;
                staked[4] = selfIsLost ? 0 : 1;
                staked[5]++;
                return 1;
            }
            if (king > cousin && prize == -1) {
                now.gold += staked[1];
            } else if (king > cousin) {
                now.things[prize][2] = 0;
                now.things[prize][5]++;
            }
            return king > cousin ? 0 : -1;
        }

        /** Ways by which the king's is greater, the cousin's is, they are alike. */
        private long[] outcomes() {
            long[] ways = new long[3];
            for (int king : falls(kind(0))) {
                for (int cousin : falls(kind(1))) {
                    ways[king > cousin ? 0 : king < cousin ? 1 : 2]++;
                }
            }
            return ways;
        }

        private static long part(BigInteger above, BigInteger below, int what) {
            BigInteger divisor = above.gcd(below);
            return (what == 0 ? above : below).divide(divisor).longValueExact();
        }

        private long odds(int what) {
            long[] ways = outcomes();
            return part(BigInteger.valueOf(ways[what / 2]), BigInteger.valueOf(ways[0] + ways[1] + ways[2]), what % 2);
        }

        /** Goes through every row of outcomes, each as heavy as its ways. */
        private long back(int thing, int throwMany, int what) {
            long[] ways = outcomes();
            int stakes = 0;
            for (int[] other : now.things) {
                stakes += other[2] == 0 && other[1] >= now.things[thing][1] ? 1 : 0;
            }
            BigInteger above = BigInteger.ZERO;
            int rows = (int) Math.pow(3, throwMany);
            for (int row = 0; row < rows; row++) {
                BigInteger weight = BigInteger.ONE;
                int left = stakes;
                boolean has = false;
                for (int t = 0, rest = row; t < throwMany; t++, rest /= 3) {
                    weight = weight.multiply(BigInteger.valueOf(ways[rest % 3]));
                    has |= left > 0 && rest % 3 == 0;
                    left -= rest % 3 == 1 ? 1 : 0;
                }
                above = has ? above.add(weight) : above;
            }
            return part(above, BigInteger.valueOf(ways[0] + ways[1] + ways[2]).pow(throwMany), what);
        }

        private int laws(int law, int what) {
            int bits = 0;
            int worth = 0;
            for (int i = 0; i < now.things.length; i++) {
                int[] thing = now.things[i];
                boolean wrongs = law == 1 || law == 3;
                boolean brothers = law == 2 || law == 3;
                if (thing[2] == 0 || wrongs && thing[4] == 0 || brothers && thing[0] == 1) {
                    bits += 1 << i;
                    worth += thing[1];
                }
            }
            return what == 0 ? bits : worth;
        }

        private int which() {
            int bits = 0;
            for (int kind = 0; kind < 5; kind++) {
                bits += falls(kind).containsAll(now.seen) ? 1 << kind : 0;
            }
            return bits;
        }

        private int likely() {
            int best = -1;
            BigInteger most = BigInteger.ZERO;
            for (int kind = 0; kind < 5; kind++) {
                List<Integer> sums = falls(kind);
                // 900 is parted by the ways of every kind, so all stand over one number.
                BigInteger parts = BigInteger.ONE;
                for (int sum : now.seen) {
                    parts = parts.multiply(BigInteger.valueOf(many(sums, sum) * (900 / sums.size())));
                }
                if (parts.compareTo(most) > 0) {
                    best = kind;
                    most = parts;
                }
            }
            return best;
        }

        private long halls(int throwMany, int seed, int what) {
            int[] least = {1, 2, 1, 1, 4};
            int[] faces = {6, 5, 6, 3, 3};
            State then = now.copy();
            BigInteger s = BigInteger.valueOf(seed);
            for (int t = 0; t < throwMany; t++) {
                int[] stake = null;
                for (int i = then.things.length - 1; i >= 0; i--) {
                    stake = then.things[i][2] == 0 ? then.things[i] : stake;
                }
                if (stake == null) {
                    break;
                }
                int[] sums = new int[2];
                for (int draw = 0; draw < 4; draw++) {
                    int k = kind(draw / 2);
                    if (k == 2 && draw % 2 == 1) {
                        sums[draw / 2] *= 2;
                        continue;
                    }
                    s = s.multiply(BigInteger.valueOf(1103515245)).add(BigInteger.valueOf(12345)).mod(BigInteger.TWO.pow(31));
                    sums[draw / 2] += least[k] + s.shiftRight(16).intValueExact() % faces[k];
                }
                then.gold += sums[0] > sums[1] ? stake[1] : 0;
                stake[2] = sums[0] < sums[1] ? 1 : 0;
            }
            int kings = 0;
            for (int[] thing : then.things) {
                kings += thing[2] == 0 ? 1 : 0;
            }
            return what == 0 ? kings : what == 1 ? then.gold : s.longValueExact();
        }

        private int count(int what) {
            int kings = 0;
            int worth = 0;
            int wrongs = 0;
            for (int[] thing : now.things) {
                kings += thing[2] == 0 ? 1 : 0;
                worth += thing[2] == 0 ? thing[1] : 0;
                wrongs += thing[2] == 1 && thing[4] == 0 ? 1 : 0;
            }
            int[] counts = {now.things.length, kings, worth, now.gold, now.throwsMade, wrongs, now.seen.size(), page.length(), read};
            return in(what, 0, 8) ? counts[what] : OUTSIDE;
        }

        long digest() {
            List<Long> numbers = new ArrayList<>();
            for (int i = 0; i < now.things.length; i++) {
                for (int told : now.things[i]) {
                    numbers.add((long) told);
                }
                if (now.things[i][2] == 1) {
                    numbers.add(back(i, 3, 0));
                    numbers.add(back(i, 3, 1));
                }
            }
            if (hall != null) {
                for (int i = 0; i < 8; i++) {
                    numbers.add((long) dice(i / 4, i % 4));
                }
                for (int i = 0; i < 6; i++) {
                    numbers.add(odds(i));
                }
                for (int i = 0; i < 8; i++) {
                    numbers.add((long) laws(i / 2, i % 2));
                }
            }
            numbers.add((long) which());
            numbers.add((long) likely());
            for (char letter : page.toCharArray()) {
                numbers.add((long) letter);
            }
            for (int i = 0; i <= 8; i++) {
                numbers.add((long) count(i));
            }
            long h = 983;
            for (long number : numbers) {
                h = 31 * h + number;
            }
            return h;
        }
    }
}
