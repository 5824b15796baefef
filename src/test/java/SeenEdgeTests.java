import java.io.IOException;
import java.math.BigInteger;
import java.util.Arrays;
import java.util.function.Consumer;

/** Edges of what SEEN, WHICH, LIKELY and HALLS by a SEED are, and of promises 14 to 18. */
public final class SeenEdgeTests extends Dues {
    private static final int DICE = 0, TWINS = 2;
    private static final int[][] WAYS = {
        {1, 2, 3, 4, 5, 6, 5, 4, 3, 2, 1},
        {0, 0, 1, 2, 3, 4, 5, 4, 3, 2, 1},
        {1, 0, 1, 0, 1, 0, 1, 0, 1, 0, 1},
        {1, 2, 3, 2, 1, 0, 0, 0, 0, 0, 0},
        {0, 0, 0, 0, 0, 0, 1, 2, 3, 2, 1},
    };
    // All ways of each kind part 900, so that all parts can stand over one number.
    private static final int[] PARTS = {900 / 36, 900 / 25, 900 / 6, 900 / 9, 900 / 9};

    public static void main(String[] args) throws IOException {
        Sentences.run(SeenEdgeTests.class, 14, 18);
    }

    private static int[] eight(int sum) {
        int[] sums = new int[8];
        Arrays.fill(sums, sum);
        return sums;
    }

    /** Every choice of up to eight SUMS, each in one order. */
    private static void forAllSeen(int[] sums, Consumer<int[]> test) {
        test.accept(sums);
        if (sums.length == 8) {
            return;
        }
        int[] more = Arrays.copyOf(sums, sums.length + 1);
        for (int sum = sums.length == 0 ? 2 : sums[sums.length - 1]; sum <= 12; sum++) {
            more[sums.length] = sum;
            forAllSeen(more.clone(), test);
        }
    }

    private static BigInteger likelihood(int kind, int[] sums) {
        BigInteger product = BigInteger.ONE;
        for (int sum : sums) {
            product = product.multiply(BigInteger.valueOf(WAYS[kind][sum - 2] * PARTS[kind]));
        }
        return product;
    }

    // ---- what SEEN, WHICH and LIKELY are

    @Sentence(promise = 0, says = "SEEN (8 at most)")
    private static void eightAtMost() {
        KingdomAtDice x = new KingdomAtDice();
        for (int many = 1; many <= 8; many++) {
            due("see(7)", x.see(7), many);
        }
        due("the 9th", x.see(7), FULL);
        due("SEEN", x.count(6), 8);
    }

    @Sentence(promise = 0, says = "WHICH KINDS they can be: as bits.")
    private static void whichOfAll() {
        forAllSeen(new int[0], sums -> {
            int bits = 0;
            for (int kind = 0; kind < 5; kind++) {
                bits |= likelihood(kind, sums).signum() << kind;
            }
            due("which() of " + Arrays.toString(sums), seen(sums).which(), bits);
        });
    }

    @Sentence(promise = 0, says = "by which KIND (in as many THROWS) just these SUMS are most likely: of like ones the least; none, if there is no such")
    private static void likelyOfAll() {
        forAllSeen(new int[0], sums -> {
            int best = NONE;
            BigInteger most = BigInteger.ZERO;
            for (int kind = 0; kind < 5; kind++) {
                BigInteger now = likelihood(kind, sums);
                if (now.compareTo(most) > 0) {
                    best = kind;
                    most = now;
                }
            }
            due("likely() of " + Arrays.toString(sums), seen(sums).likely(), best);
        });
    }

    // ---- what HALLS by a SEED are

    private static void hallsAre(KingdomAtDice x, int throwMany, int seed, int... due) {
        String call = "halls(" + throwMany + ", " + seed + ", ";
        due(call + "0)", x.halls(throwMany, seed, 0), due[0]);
        due(call + "1)", x.halls(throwMany, seed, 1), due[1]);
        due(call + "2)", x.halls(throwMany, seed, 2), due[2]);
    }

    private static KingdomAtDice sixThings(String kinds) {
        return inHall("j4,b7,s2,j9,j1,b3;" + kinds);
    }

    @Sentence(promise = 0, says = "the KING stakes the least THING that is his")
    private static void leastThing() {
        // BONE by LIGHT always wins: as much GOLD as the least of his is WORTH.
        hallsAre(inHall("j9,b1;bl"), 1, 5, 2, 9, (int) seedBehind(5, 4));
        KingdomAtDice x = inHall("j9,b1,j5;dd");
        lose(x, 0);
        due("from 1 the KING's 8 is above 6: 1 is staked", x.halls(1, 1, 1), 1);
        lose(x, 1);
        due("2 is staked", x.halls(1, 1, 1), 5);
        x.play(2, 1, 12, 2);
        due("1 is his again", x.halls(1, 1, 1), 1);
    }

    private static long seedBehind(long seed, int draws) {
        BigInteger s = BigInteger.valueOf(seed);
        for (int i = 0; i < draws; i++) {
            s = s.multiply(BigInteger.valueOf(1103515245)).add(BigInteger.valueOf(12345)).mod(BigInteger.ONE.shiftLeft(31));
        }
        return s.longValueExact();
    }

    @Sentence(promise = 0, says = "(if none is, no more is thrown)")
    private static void noneIsLeft() {
        KingdomAtDice x = inHall("j4,b7;dd");
        x.play(0, NONE, 12, 2);
        lose(x, 0, 1);
        int[] seeds = {0, 1, MAX};
        for (int seed : seeds) {
            hallsAre(x, 1, seed, 0, 4, seed);
            hallsAre(x, 60, seed, 0, 4, seed);
        }
        // LIGHT by BONE always loses, by four DRAWS each.
        KingdomAtDice poor = inHall("j4,b7,j1;lb");
        for (int throwMany = 1; throwMany <= 5; throwMany++) {
            int thrown = Math.min(3, throwMany);
            hallsAre(poor, throwMany, 9, 3 - thrown, 0, (int) seedBehind(9, 4 * thrown));
        }
        hallsAre(poor, 60, 9, 0, 0, (int) seedBehind(9, 12));
    }

    @Sentence(promise = 0, says = "(TWINS by one DRAW)")
    private static void twinsByOneDraw() {
        for (int king = 0; king < 5; king++) {
            for (int cousin = 0; cousin < 5; cousin++) {
                int draws = (king == TWINS ? 1 : 2) + (cousin == TWINS ? 1 : 2);
                due(king + " by " + cousin, withDice(king, cousin).halls(1, 7, 2), seedBehind(7, draws));
            }
        }
    }

    @Sentence(promise = 0, says = "first the KING's DICE fall, then the COUSIN's: each by a DRAW of as many as one can tell, from the least one on")
    private static void leastAndGreatestFalls() {
        // From 0: TWINS 2 by 2; from the greatest SEED: 12 by 12.
        hallsAre(sixThings("tt"), 1, 0, 6, 0, 1406932606);
        hallsAre(sixThings("tt"), 1, MAX, 6, 0, 288979989);
        // From 0: DICE 2 by 7, HEAVY 7 by 9, LIGHT 2 by 4, BONE 8 by 10; from 1: 8 by 6, 10 by 7, 5 by 3, 11 by 9.
        String[] kinds = {"dd", "hh", "ll", "bb"};
        for (String both : kinds) {
            hallsAre(sixThings(both), 1, 0, 5, 0, 1449466924);
            hallsAre(sixThings(both), 1, 1, 6, 4, 1147902781);
        }
        // From 0: HEAVY 7 by BONE 10; from the greatest SEED TWINS 12 by DICE 11, LIGHT 6 by TWINS 10.
        hallsAre(sixThings("hb"), 1, 0, 5, 0, 1449466924);
        hallsAre(sixThings("td"), 1, MAX, 6, 4, 646343466);
        hallsAre(sixThings("lt"), 1, MAX, 5, 0, 646343466);
        // From 1: TWINS 6 by DICE 9; from the greatest SEED DICE 12 by TWINS 10.
        hallsAre(sixThings("td"), 1, 1, 5, 0, 662824084);
        hallsAre(sixThings("dt"), 1, MAX, 6, 4, 646343466);
    }

    @Sentence(promise = 0, says = "how many THINGS are the KING's then; how much GOLD he has then")
    private static void thingsAndGoldThen() {
        hallsAre(sixThings("dd"), 60, MAX, 0, 50, 1333014595);
        hallsAre(sixThings("hh"), 60, 0, 0, 22, 805269672);
        hallsAre(sixThings("bl"), 30, MAX - 1, 6, 120, 14292902);
        KingdomAtDice rich = inHall("j9,j9;bl");
        for (int i = 0; i < 30; i++) {
            rich.play(1, NONE, 12, 2);
        }
        due("as much GOLD as can be", rich.halls(60, 3, 1), 30 * 9 + 60 * 9);
        due("GOLD by one THROW more", rich.halls(1, 3, 1), 30 * 9 + 9);
    }

    @Sentence(promise = 0, says = "1103515245 times it and 12345, its rest by 2 to the 31")
    private static void seedsWrapAround() {
        int[] seeds = {0, 1, 2, 65535, 65536, 1 << 30, MAX - 1, MAX};
        for (int seed : seeds) {
            due("from " + seed, withDice(TWINS, TWINS).halls(1, seed, 2), seedBehind(seed, 2));
            due("from " + seed, withDice(DICE, DICE).halls(1, seed, 2), seedBehind(seed, 4));
        }
    }

    @Sentence(promise = 0, says = "HALLS by a SEED, as they would be")
    private static void asTheyWouldBe() {
        KingdomAtDice x = sixThings("dd");
        x.image();
        for (int what = 0; what <= 2; what++) {
            x.halls(60, 3, what);
        }
        KingdomAtDice other = sixThings("dd");
        other.image();
        likeAnother("halls", x, other);
        due("the same again", x.halls(7, 3, 2), sixThings("dd").halls(7, 3, 2));
        throwAlike(x, 0, 30);
        hallsAre(x, 60, MAX, 0, 50, 1333014595);
    }

    // ---- promises

    private static KingdomAtDice inHallWithSeen(int... sums) {
        KingdomAtDice x = inHall("j4,b7;dd");
        for (int sum : sums) {
            x.see(sum);
        }
        x.image();
        return x;
    }

    @Sentence(promise = 14, says = "OUTSIDE: sum (2 to 12); FULL.")
    private static void seeRefusals() {
        for (int sum = 2; sum <= 12; sum++) {
            due("see(" + sum + ")", new KingdomAtDice().see(sum), 1);
            due("see(" + sum + ") in a HALL of other DICE", inHall("j4,b7;ll").see(sum), 1);
            int one = sum;
            refused(() -> inHallWithSeen(eight(8)), "the 9th, " + sum, x -> x.see(one), FULL);
        }
        for (int sum : NO_SUMS) {
            refused(() -> seen(5), "see(" + sum + ")", x -> x.see(sum), OUTSIDE);
            refused(() -> inHallWithSeen(5, 6), "see(" + sum + ")", x -> x.see(sum), OUTSIDE);
            refused(() -> inHallWithSeen(eight(8)), "see(" + sum + ")", x -> x.see(sum), OUTSIDE);
        }
    }

    @Sentence(promise = 15, says = "Nothing is SEEN any more: how much was.")
    private static void forgets() {
        due("of a new one", new KingdomAtDice().forget(), 0);
        due("of one", seen(2).forget(), 1);
        KingdomAtDice x = inHallWithSeen(eight(2));
        due("of eight", x.forget(), 8);
        due("of none", x.forget(), 0);
        due("SEEN", x.count(6), 0);
        due("which()", x.which(), 31);
        due("likely()", x.likely(), 0);
        due("the first again", x.see(9), 1);
        due("only what is SEEN since", x.which(), seen(9).which());
        due("the IMAGE keeps what was", x.restore(), 0);
        due("SEEN", x.count(6), 8);
    }

    @Sentence(promise = 16, says = "WHICH, as bits.")
    private static void whichOfNoneAndOfOne() {
        due("which() of a new one", new KingdomAtDice().which(), 31);
        int[] bits = {1 + 4 + 8, 1 + 8, 1 + 2 + 4 + 8, 1 + 2 + 8, 1 + 2 + 4 + 8, 1 + 2, 1 + 2 + 4 + 16, 1 + 2 + 16,
            1 + 2 + 4 + 16, 1 + 2 + 16, 1 + 2 + 4 + 16};
        for (int sum = 2; sum <= 12; sum++) {
            due("which() of " + sum, seen(sum).which(), bits[sum - 2]);
            due("which() of eight " + sum, seen(eight(sum)).which(), bits[sum - 2]);
            due("which() of " + sum + ", in a HALL of LIGHT ones", withLight(sum).which(), bits[sum - 2]);
        }
    }

    private static KingdomAtDice withLight(int sum) {
        KingdomAtDice x = inHall("j4,b7;ll");
        x.see(sum);
        return x;
    }

    @Sentence(promise = 17, says = "LIKELY; NONE.")
    private static void likelyOfNoneAndOfOne() {
        due("likely() of a new one: all are alike, the least", new KingdomAtDice().likely(), 0);
        int[] kinds = {2, 3, 3, 3, 2, 0, 1, 4, 4, 4, 2};
        for (int sum = 2; sum <= 12; sum++) {
            due("likely() of " + sum, seen(sum).likely(), kinds[sum - 2]);
            due("likely() of eight " + sum, seen(eight(sum)).likely(), kinds[sum - 2]);
        }
        due("DICE make all: never NONE", seen(2, 3, 5, 7, 9, 11, 12, 7).likely(), 0);
    }

    @Sentence(promise = 18, says = "2 the SEED then")
    private static void seedThen() {
        KingdomAtDice x = sixThings("bl");
        // BONE by LIGHT never loses: 60 THROWS are of 240 DRAWS, and two runs of 30 are as one of 60.
        int half = x.halls(30, 12, 2);
        due("the SEED by 30", half, seedBehind(12, 120));
        due("the SEED by 60", x.halls(60, 12, 2), seedBehind(12, 240));
        due("on from there", x.halls(30, half, 2), seedBehind(12, 240));
    }

    @Sentence(promise = 18, says = "OUTSIDE: throws (1 to 60), seed (0 at least), what; STATE: no HALL.")
    private static void hallsRefusals() {
        hallsAre(inHall("j4,b7;bl"), 1, 0, 2, 4, (int) seedBehind(0, 4));
        hallsAre(inHall("j4,b7;bl"), 60, MAX, 2, 240, (int) seedBehind(MAX, 240));
        int[] throwMany = {0, -1, 61, MIN, MAX};
        for (int many : throwMany) {
            hallsRefused(many, 0, 0);
        }
        int[] seeds = {-1, -2, MIN};
        for (int seed : seeds) {
            hallsRefused(1, seed, 0);
        }
        int[] whats = {-1, 3, MIN, MAX};
        for (int what : whats) {
            hallsRefused(1, 0, what);
        }
        for (int what = 0; what <= 2; what++) {
            int one = what;
            refused(KingdomAtDice::new, "halls(1, 0, " + what + ") without a HALL", x -> x.halls(1, 0, one), STATE);
            refused(() -> page("j1,b2;dd"), "halls(60, MAX, " + what + ") without a HALL", x -> x.halls(60, MAX, one), STATE);
        }
    }

    private static void hallsRefused(int throwMany, int seed, int what) {
        String call = "halls(" + throwMany + ", " + seed + ", " + what + ")";
        refused(() -> inHallWithSeen(5), call, x -> x.halls(throwMany, seed, what), OUTSIDE);
        refused(KingdomAtDice::new, call + " without a HALL", x -> x.halls(throwMany, seed, what), OUTSIDE);
    }
}
