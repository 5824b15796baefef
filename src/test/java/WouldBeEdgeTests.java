import java.io.IOException;
import java.math.BigInteger;

/** Edges of what BACK and LAWS are, and of promises 12 and 13. */
public final class WouldBeEdgeTests extends Dues {
    public static void main(String[] args) throws IOException {
        Sentences.run(WouldBeEdgeTests.class, 12, 13);
    }

    private static void backIs(KingdomAtDice x, int thing, int throwMany, long above, long below) {
        due("back(" + thing + ", " + throwMany + ", 0)", x.back(thing, throwMany, 0), above);
        due("back(" + thing + ", " + throwMany + ", 1)", x.back(thing, throwMany, 1), below);
    }

    /** Twins on both sides: won by 5 of 12, lost by 5 of 12, alike by 2 of 12. */
    private static KingdomAtDice twins(String things, int... lost) {
        KingdomAtDice x = inHall(things + ";tt");
        lose(x, lost);
        return x;
    }

    // ---- what BACK is

    @Sentence(promise = 0, says = "so many THROWS (1 to 5)")
    private static void oneToFiveThrows() {
        // By one stake: 5 of 12, and each THROW that is alike gives one more.
        long[][] parts = {{5, 12}, {35, 72}, {215, 432}, {1295, 2592}, {7775, 15552}};
        for (int throwMany = 1; throwMany <= 5; throwMany++) {
            backIs(twins("j4,b4", 0), 0, throwMany, parts[throwMany - 1][0], parts[throwMany - 1][1]);
        }
        int[] outside = {0, -1, 6, MIN, MAX};
        for (int throwMany : outside) {
            refused(() -> twins("j4,b4", 0), "back(0, " + throwMany + ", 0)", x -> x.back(0, throwMany, 0), OUTSIDE);
        }
    }

    @Sentence(promise = 0, says = "one of the THINGS that are his now")
    private static void hisNow() {
        backIs(twins("j4,b4,j4", 0), 0, 2, 95, 144);
        backIs(twins("j4,b4,j4", 0, 2), 0, 2, 35, 72);
        backIs(twins("j4,b4,j4", 0, 2, 1), 0, 2, 0, 1);
        KingdomAtDice x = twins("j4,b4,j4", 0, 2);
        x.play(1, 2, 12, 2);
        backIs(x, 0, 2, 95, 144);
    }

    @Sentence(promise = 0, says = "of no less WORTH")
    private static void noLessWorth() {
        for (int worth = 1; worth <= 9; worth++) {
            KingdomAtDice x = twins("j" + worth + ",b5", 1);
            backIs(x, 1, 1, worth >= 5 ? 5 : 0, worth >= 5 ? 12 : 1);
        }
        backIs(twins("j4,b5,s4,j6", 1), 1, 2, 35, 72);
        backIs(twins("j5,b5,s4,j4", 1), 1, 2, 35, 72);
        backIs(twins("j4,b5,s5,j5", 1), 1, 2, 95, 144);
    }

    @Sentence(promise = 0, says = "until he has it")
    private static void untilHeHasIt() {
        // There is always a stake: all but the rows of THROWS none of which wins, 7 of 12 each.
        long[][] parts = {{5, 12}, {95, 144}, {1385, 1728}, {18335, 20736}, {232025, 248832}};
        KingdomAtDice x = twins("j4,b4,b5,j6,s7,j8", 0);
        for (int throwMany = 1; throwMany <= 5; throwMany++) {
            backIs(x, 0, throwMany, parts[throwMany - 1][0], parts[throwMany - 1][1]);
        }
    }

    @Sentence(promise = 0, says = "one after the other, as they are lost (alike: the same one again)")
    private static void stakesOneAfterTheOther() {
        String[] kinds = {"dd", "hd", "td", "th", "tb", "dt", "ht", "db"};
        for (String dice : kinds) {
            for (int stakes = 1; stakes <= 5; stakes++) {
                KingdomAtDice x = inHall("j4" + ",j4".repeat(stakes) + ";" + dice);
                lose(x, 0);
                for (int throwMany = 1; throwMany <= 5; throwMany++) {
                    backBySum(dice, x, stakes, throwMany);
                }
            }
        }
    }

    /** He wins behind so many THROWS that lost all but one stake at most, the others alike. */
    private static void backBySum(String dice, KingdomAtDice x, int stakes, int throwMany) {
        BigInteger all = BigInteger.valueOf((long) x.dice(0, 3) * x.dice(1, 3));
        BigInteger above = BigInteger.ZERO;
        for (int before = 0; before < throwMany; before++) {
            for (int lost = 0; lost <= before && lost < stakes; lost++) {
                BigInteger rows = BigInteger.valueOf(choose(before, lost));
                above = above.add(rows.multiply(ways(x, 2).pow(lost)).multiply(ways(x, 4).pow(before - lost))
                    .multiply(ways(x, 0)).multiply(all.pow(throwMany - before - 1)));
            }
        }
        BigInteger below = all.pow(throwMany);
        BigInteger divisor = above.gcd(below);
        String call = dice + ", " + stakes + " stakes, " + throwMany + " THROWS,";
        due(call + " above", x.back(0, throwMany, 0), above.divide(divisor).longValueExact());
        due(call + " below", x.back(0, throwMany, 1), below.divide(divisor).longValueExact());
    }

    private static BigInteger ways(KingdomAtDice x, int what) {
        return BigInteger.valueOf((long) x.odds(what) * x.dice(0, 3) * x.dice(1, 3) / x.odds(what + 1));
    }

    private static int choose(int from, int many) {
        return many == 0 || many == from ? 1 : choose(from - 1, many - 1) + choose(from - 1, many);
    }

    // ---- what LAWS are

    private static void lawIs(KingdomAtDice x, int law, int bits, int worth) {
        due("laws(" + law + ", 0)", x.laws(law, 0), bits);
        due("laws(" + law + ", 1)", x.laws(law, 1), worth);
    }

    private static KingdomAtDice inLawHall(int... lost) {
        KingdomAtDice x = inHall("j1,b2,s3,j4,b5,j6;dd");
        lose(x, lost);
        return x;
    }

    @Sentence(promise = 0, says = "by 0 all stays as it is")
    private static void byNoLaw() {
        lawIs(inLawHall(), 0, 63, 21);
        lawIs(inLawHall(0), 0, 62, 20);
        lawIs(inLawHall(2, 1, 5), 0, 25, 10);
        lawIs(inLawHall(2, 0, 1, 3, 4, 5), 0, 0, 0);
    }

    @Sentence(promise = 0, says = "by 1 what is the COUSIN's, and was not lost RIGHTLY, is the KING's")
    private static void byTheLawOfWrongs() {
        lawIs(inLawHall(), 1, 63, 21);
        lawIs(inLawHall(2), 1, 59, 18);
        lawIs(inLawHall(0, 1, 2), 1, 56, 15);
        lawIs(inLawHall(2, 0, 1, 3, 4, 5), 1, 59, 18);
        lawIs(inLawHall(0, 1, 3, 4, 5, 2), 1, 0, 0);
        KingdomAtDice x = inLawHall(2, 0);
        x.play(5, 2, 12, 2);
        lawIs(x, 1, 63, 21);
        x.play(5, 0, 12, 2);
        lose(x, 0);
        lawIs(x, 1, 62, 20);
    }

    @Sentence(promise = 0, says = "by 2 all BROTHERS are")
    private static void byTheLawOfBrothers() {
        lawIs(inLawHall(), 2, 63, 21);
        lawIs(inLawHall(0, 1, 3, 4, 5, 2), 2, 18, 7);
        lawIs(inLawHall(2, 1, 0), 2, 58, 17);
        KingdomAtDice x = inHall("j9,s9;dd");
        lose(x, 1, 0);
        lawIs(x, 2, 0, 0);
    }

    @Sentence(promise = 0, says = "by 3 both")
    private static void byBothLaws() {
        lawIs(inLawHall(), 3, 63, 21);
        lawIs(inLawHall(0, 1, 3, 4, 5, 2), 3, 18, 7);
        lawIs(inLawHall(0, 1, 2, 3, 4, 5), 3, 58, 17);
        lawIs(inLawHall(2, 0, 1, 3, 4, 5), 3, 59, 18);
    }

    // ---- promises

    @Sentence(promise = 12, says = "what = 0 above, 1 below, in lowest terms")
    private static void lowestTerms() {
        backIs(twins("j4,b4", 0, 1), 0, 1, 0, 1);
        backIs(twins("j4,b4", 0, 1), 1, 5, 0, 1);
        KingdomAtDice never = inHall("j4,b4;lb");
        never.play(0, NONE, 2, 8);
        backIs(never, 0, 5, 0, 1);
        KingdomAtDice most = inHall("j1,j2,j3,j4,j5,j6;dd");
        lose(most, 0);
        backIs(most, 0, 1, 575, 1296);
        // The greatest of all numbers below: 1296 to the 5.
        backIs(most, 0, 5, 3461319246395375L, 3656158440062976L);
        int[] outside = {-1, 2, MIN, MAX};
        for (int what : outside) {
            refused(() -> twins("j4,b4", 0), "back(0, 1, " + what + ")", x -> x.back(0, 1, what), OUTSIDE);
        }
    }

    @Sentence(promise = 12, says = "UNKNOWN; OUTSIDE: throws, what; STATE: it is the KING's.")
    private static void backRefusals() {
        int[] unknown = {-1, 2, 6, MIN, MAX};
        for (int thing : unknown) {
            refused(() -> twins("j4,b4", 0), "back(" + thing + ", 1, 0)", x -> x.back(thing, 1, 0), UNKNOWN);
        }
        refused(KingdomAtDice::new, "back(0, 1, 0) without a HALL", x -> x.back(0, 1, 0), UNKNOWN);
        refused(() -> twins("j4,b4", 0), "back(1, 1, 0)", x -> x.back(1, 1, 0), STATE);
        refused(() -> twins("j4,b4"), "back(0, 5, 1) of what was never lost", x -> x.back(0, 5, 1), STATE);
        refused(() -> {
            KingdomAtDice x = twins("j4,b4", 0);
            x.play(1, 0, 12, 2);
            return x;
        }, "back(0, 5, 1) of what was won back", x -> x.back(0, 5, 1), STATE);
    }

    @Sentence(promise = 12, says = "BACK")
    private static void whatWouldBeIsNotThrown() {
        KingdomAtDice x = twins("j4,b4", 0);
        throwAlike(x, 1, 29);
        backIs(x, 0, 5, 7775, 15552);
        due("whose it is", x.thing(0, 2), 1);
        due("THROWS", x.count(4), 30);
    }

    @Sentence(promise = 13, says = "0 which THINGS would be the KING's, as bits, 1 their WORTH together")
    private static void bitsAndWorth() {
        for (int thing = 0; thing < 6; thing++) {
            lawIs(inLawHall(thing), 0, 63 - (1 << thing), 20 - thing);
        }
        KingdomAtDice most = inHall("j9,j9,j9,j9,j9,j9;dd");
        lawIs(most, 3, 63, 54);
        KingdomAtDice least = inHall("j1,j1;dd");
        lawIs(least, 3, 3, 2);
    }

    @Sentence(promise = 13, says = "By a LAW")
    private static void wouldBeIsNotSo() {
        KingdomAtDice x = inLawHall(2, 1, 0);
        KingdomAtDice other = inLawHall(2, 1, 0);
        for (int law = 0; law <= 3; law++) {
            x.laws(law, 0);
            x.laws(law, 1);
        }
        likeAnother("laws", x, other);
    }

    @Sentence(promise = 13, says = "OUTSIDE: law, what; STATE: no HALL.")
    private static void lawRefusals() {
        int[] laws = {-1, 4, MIN, MAX};
        for (int law : laws) {
            refused(() -> inLawHall(2, 1), "laws(" + law + ", 0)", x -> x.laws(law, 0), OUTSIDE);
            refused(KingdomAtDice::new, "laws(" + law + ", 0) without a HALL", x -> x.laws(law, 0), OUTSIDE);
        }
        int[] whats = {-1, 2, MIN, MAX};
        for (int what : whats) {
            refused(() -> inLawHall(2, 1), "laws(0, " + what + ")", x -> x.laws(0, what), OUTSIDE);
            refused(KingdomAtDice::new, "laws(3, " + what + ") without a HALL", x -> x.laws(3, what), OUTSIDE);
        }
        for (int law = 0; law <= 3; law++) {
            int one = law;
            refused(KingdomAtDice::new, "laws(" + law + ", 0) without a HALL", x -> x.laws(one, 0), STATE);
            refused(() -> page("j1,b2;dd"), "laws(" + law + ", 1) ahead of hall()", x -> x.laws(one, 1), STATE);
        }
    }
}
