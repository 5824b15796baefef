import java.io.IOException;

/** Edges of what a THROW and RIGHTLY are, and of promises 10 and 11. */
public final class ThrowEdgeTests extends Dues {
    private static final int DICE = 0, LIGHT = 3, BONE = 4;
    private static final int[][] SUMS = {
        {2, 3, 4, 5, 6, 7, 8, 9, 10, 11, 12}, {4, 5, 6, 7, 8, 9, 10, 11, 12}, {2, 4, 6, 8, 10, 12},
        {2, 3, 4, 5, 6}, {8, 9, 10, 11, 12},
    };

    public static void main(String[] args) throws IOException {
        Sentences.run(ThrowEdgeTests.class, 10, 11);
    }

    private static KingdomAtDice jewelLost() {
        KingdomAtDice x = inHall("j4,b7,s6;dd");
        lose(x, 0);
        x.see(5);
        x.image();
        write(x, "j1");
        return x;
    }

    // ---- what a THROW is

    @Sentence(promise = 0, says = "the KING stakes a THING that is his")
    private static void stakeIsHis() {
        refused(ThrowEdgeTests::jewelLost, "a lost stake for GOLD", x -> x.play(0, NONE, 12, 2), STATE);
        refused(ThrowEdgeTests::jewelLost, "a lost stake for itself", x -> x.play(0, 0, 12, 2), STATE);
        KingdomAtDice x = jewelLost();
        x.play(1, 0, 12, 2);
        due("won back, it may be staked", x.play(0, NONE, 12, 2), 0);
    }

    @Sentence(promise = 0, says = "for one that is the COUSIN's")
    private static void prizeIsTheCousins() {
        refused(ThrowEdgeTests::jewelLost, "a prize that is the KING's", x -> x.play(1, 2, 12, 2), STATE);
        refused(ThrowEdgeTests::jewelLost, "what is staked for itself", x -> x.play(1, 1, 12, 2), STATE);
        KingdomAtDice x = jewelLost();
        x.play(1, 0, 12, 2);
        due("won back, it is no prize", x.play(1, 0, 12, 2), STATE);
    }

    @Sentence(promise = 0, says = "of WORTH no more than his")
    private static void worthNoMore() {
        for (int stake = 1; stake <= 9; stake++) {
            for (int prize = 1; prize <= 9; prize++) {
                KingdomAtDice x = inHall("j" + stake + ",b" + prize + ";dd");
                lose(x, 1);
                due(stake + " for " + prize, x.play(0, 1, 8, 7), prize > stake ? STATE : 0);
                due("whose " + prize, x.thing(1, 2), prize > stake ? 1 : 0);
            }
        }
    }

    @Sentence(promise = 0, says = "or for GOLD")
    private static void forGold() {
        KingdomAtDice x = jewelLost();
        due("for GOLD while there are prizes", x.play(1, NONE, 12, 2), 0);
        due("GOLD", x.count(3), 7);
        due("the prize stays where it is", x.thing(0, 2), 1);
    }

    @Sentence(promise = 0, says = "If his SUM is greater, that THING is his, or he has as much GOLD more as what he staked is WORTH.")
    private static void greater() {
        for (int sum = 3; sum <= 12; sum++) {
            KingdomAtDice x = jewelLost();
            due("greater by one, for a THING", x.play(1, 0, sum, sum - 1), 0);
            due("it is his", x.thing(0, 2), 0);
            due("no GOLD", x.count(3), 0);
            due("greater by one, for GOLD", x.play(2, NONE, sum, sum - 1), 0);
            due("GOLD by what was staked", x.count(3), 6);
            due("as much more", x.play(1, NONE, sum, 2), 0);
            due("GOLD", x.count(3), 13);
            due("what was staked is his yet", x.count(1), 3);
        }
    }

    @Sentence(promise = 0, says = "If his SUM is less, what he staked is the COUSIN's.")
    private static void less() {
        for (int sum = 2; sum <= 11; sum++) {
            KingdomAtDice x = jewelLost();
            due("less by one, for a THING", x.play(1, 0, sum, sum + 1), 1);
            due("the stake", x.thing(1, 2), 1);
            due("the prize", x.thing(0, 2), 1);
            due("how often the prize went over", x.thing(0, 5), 1);
            due("less by one, for GOLD", x.play(2, NONE, sum, sum + 1), 1);
            due("none is left", x.count(1), 0);
            due("no GOLD", x.count(3), 0);
        }
    }

    @Sentence(promise = 0, says = "If they are alike, nothing happens.")
    private static void alike() {
        for (int sum = 2; sum <= 12; sum++) {
            KingdomAtDice x = jewelLost();
            due("alike for a THING", x.play(1, 0, sum, sum), NONE);
            due("alike for GOLD", x.play(2, NONE, sum, sum), NONE);
            for (int thing = 0; thing < 3; thing++) {
                for (int what = 0; what <= 5; what++) {
                    due("thing(" + thing + ", " + what + ")", x.thing(thing, what), jewelLost().thing(thing, what));
                }
            }
            due("no GOLD", x.count(3), 0);
            due("they were THROWS", x.count(4), 3);
        }
    }

    // ---- what RIGHTLY is

    @Sentence(promise = 0, says = "A THING that is lost while SELF is the KING's yet (SELF, too; or if there is no SELF) is lost RIGHTLY.")
    private static void rightlyBySelfsPlace() {
        String[] texts = {"s9,j9,b9;dd", "j9,s9,b9;dd", "j9,b9,s9;dd"};
        for (int self = 0; self < 3; self++) {
            int before = (self + 1) % 3;
            int behind = (self + 2) % 3;
            KingdomAtDice x = inHall(texts[self]);
            lose(x, before, self, behind);
            due("ahead of SELF", x.thing(before, 4), 1);
            due("SELF, too", x.thing(self, 4), 1);
            due("behind SELF", x.thing(behind, 4), 0);
            due("not lost RIGHTLY", x.count(5), 1);
        }
    }

    @Sentence(promise = 0, says = "or if there is no SELF")
    private static void rightlyWithoutSelf() {
        KingdomAtDice x = inHall("j9,b9,b8,j8,j7,b7;dd");
        lose(x, 0, 1, 2, 3, 4, 5);
        for (int thing = 0; thing < 6; thing++) {
            due("RIGHTLY " + thing, x.thing(thing, 4), 1);
        }
        due("not lost RIGHTLY", x.count(5), 0);
    }

    @Sentence(promise = 0, says = "while SELF is the KING's yet")
    private static void rightlyAgain() {
        KingdomAtDice x = inHall("s1,j2,j3,j9;dd");
        lose(x, 0, 1);
        due("SELF is won back", x.play(3, 0, 12, 2), 0);
        due("what was lost wrongly stays so", x.thing(1, 4), 0);
        lose(x, 2);
        due("SELF is the KING's again", x.thing(2, 4), 1);
        lose(x, 0);
        due("SELF, a second time", x.thing(0, 4), 1);
        due("what was lost RIGHTLY stays so", x.thing(2, 4), 1);
        lose(x, 3);
        due("behind SELF again", x.thing(3, 4), 0);
        due("not lost RIGHTLY", x.count(5), 2);
    }

    // ---- promises

    @Sentence(promise = 10, says = "who wins (0, 1; NONE: they are alike)")
    private static void whoWins() {
        for (int king : SUMS[DICE]) {
            for (int cousin : SUMS[DICE]) {
                KingdomAtDice x = inHall("j4,b7;dd");
                int won = king > cousin ? 0 : king < cousin ? 1 : NONE;
                due("play(0, NONE, " + king + ", " + cousin + ")", x.play(0, NONE, king, cousin), won);
            }
        }
    }

    @Sentence(promise = 10, says = "UNKNOWN: stake, prize (NONE: GOLD)")
    private static void unknownStakeOrPrize() {
        int[] stakes = {-1, -2, 3, 6, MIN, MAX};
        for (int stake : stakes) {
            refused(ThrowEdgeTests::jewelLost, "stake " + stake, x -> x.play(stake, NONE, 12, 2), UNKNOWN);
            refused(ThrowEdgeTests::jewelLost, "stake " + stake + " for 0", x -> x.play(stake, 0, 12, 2), UNKNOWN);
        }
        int[] prizes = {-2, 3, 6, MIN, MAX, UNKNOWN};
        for (int prize : prizes) {
            refused(ThrowEdgeTests::jewelLost, "prize " + prize, x -> x.play(1, prize, 12, 2), UNKNOWN);
        }
        refused(KingdomAtDice::new, "play without a HALL", x -> x.play(0, NONE, 12, 2), UNKNOWN);
        refused(KingdomAtDice::new, "play without a HALL or a SUM", x -> x.play(0, NONE, 0, 0), UNKNOWN);
    }

    private static boolean makes(int kind, int sum) {
        for (int can : SUMS[kind]) {
            if (can == sum) {
                return true;
            }
        }
        return false;
    }

    @Sentence(promise = 10, says = "OUTSIDE: king, cousin (a SUM that their DICE cannot make)")
    private static void sumsThatDiceCannotMake() {
        for (int kind = 0; kind < 5; kind++) {
            for (int sum = -1; sum <= 14; sum++) {
                int can = makes(kind, sum) ? 1 : 0;
                int king = withDice(kind, DICE).play(0, NONE, sum, 2);
                due(kind + " of the KING makes " + sum, king == OUTSIDE ? 0 : 1, can);
                int cousin = withDice(DICE, kind).play(0, NONE, 2, sum);
                due(kind + " of the COUSIN makes " + sum, cousin == OUTSIDE ? 0 : 1, can);
            }
        }
        for (int sum : NO_SUMS) {
            refused(ThrowEdgeTests::jewelLost, "king " + sum, x -> x.play(1, NONE, sum, 7), OUTSIDE);
            refused(ThrowEdgeTests::jewelLost, "cousin " + sum, x -> x.play(1, NONE, 7, sum), OUTSIDE);
        }
        refused(() -> withDice(LIGHT, BONE), "SUMS of each other", x -> x.play(0, NONE, 8, 6), OUTSIDE);
    }

    @Sentence(promise = 10, says = "STATE: the stake is not the KING's, the prize not the COUSIN's, or of more WORTH")
    private static void stateOfStakeAndPrize() {
        refused(ThrowEdgeTests::jewelLost, "the stake", x -> x.play(0, NONE, 7, 7), STATE);
        refused(ThrowEdgeTests::jewelLost, "the prize", x -> x.play(2, 1, 7, 7), STATE);
        refused(() -> {
            KingdomAtDice x = inHall("j4,b5;dd");
            lose(x, 1);
            return x;
        }, "of more WORTH by one", x -> x.play(0, 1, 7, 7), STATE);
    }

    private static KingdomAtDice thirtyThrows() {
        KingdomAtDice x = inHall("j4,b7,s6;dd");
        x.play(1, NONE, 12, 2);
        lose(x, 0);
        throwAlike(x, 1, 27);
        x.image();
        due("the 30th", x.play(2, NONE, 2, 12), 1);
        return x;
    }

    @Sentence(promise = 10, says = "FULL: there were 30.")
    private static void thirtyAreFull() {
        due("THROWS", thirtyThrows().count(4), 30);
        due("lost by the 30th", thirtyThrows().thing(2, 3), 30);
        refused(ThrowEdgeTests::thirtyThrows, "the 31st that wins", x -> x.play(1, NONE, 12, 2), FULL);
        refused(ThrowEdgeTests::thirtyThrows, "the 31st that wins back", x -> x.play(1, 0, 12, 2), FULL);
        refused(ThrowEdgeTests::thirtyThrows, "the 31st that loses", x -> x.play(1, NONE, 2, 12), FULL);
        refused(ThrowEdgeTests::thirtyThrows, "the 31st, alike", x -> x.play(1, NONE, 2, 2), FULL);
        KingdomAtDice x = thirtyThrows();
        due("the IMAGE of 29", x.restore(), 29);
        due("the 30th anew", x.play(1, 0, 12, 2), 0);
        due("the 31st", x.play(1, NONE, 12, 2), FULL);
    }

    @Sentence(promise = 10, says = "FULL: there were 30.")
    private static void refusedAreNoThrows() {
        KingdomAtDice x = jewelLost();
        for (int i = 0; i < 40; i++) {
            x.play(9, NONE, 12, 2);
            x.play(1, NONE, 13, 2);
            x.play(0, NONE, 12, 2);
        }
        due("THROWS", x.count(4), 1);
        throwAlike(x, 1, 29);
        due("the 31st", x.play(1, NONE, 8, 8), FULL);
    }

    private static int commonDivisor(int one, int other) {
        return other == 0 ? one : commonDivisor(other, one % other);
    }

    private static void part(String name, KingdomAtDice x, int what, int ways, int all) {
        int divisor = commonDivisor(ways, all);
        due(name + " above", x.odds(what), ways / divisor);
        due(name + " below", x.odds(what + 1), all / divisor);
    }

    @Sentence(promise = 11, says = "0 above, 1 below, that the KING's SUM is greater; 2, 3 that the COUSIN's is; 4, 5 that they are alike: in lowest terms")
    private static void oddsOfEachPair() {
        for (int king = 0; king < 5; king++) {
            for (int cousin = 0; cousin < 5; cousin++) {
                KingdomAtDice x = withDice(king, cousin);
                int[] ways = new int[3];
                for (int one : SUMS[king]) {
                    for (int other : SUMS[cousin]) {
                        ways[one > other ? 0 : one < other ? 1 : 2] += x.ways(0, one) * x.ways(1, other);
                    }
                }
                int all = ways[0] + ways[1] + ways[2];
                String pair = "odds of " + KINDS.charAt(king) + KINDS.charAt(cousin);
                part(pair + ", the KING's is greater,", x, 0, ways[0], all);
                part(pair + ", the COUSIN's is greater,", x, 2, ways[1], all);
                part(pair + ", alike,", x, 4, ways[2], all);
            }
        }
    }

    @Sentence(promise = 11, says = "(0 of 1)")
    private static void neverAndAlways() {
        int[] never = {0, 1, 1, 1, 0, 1};
        int[] always = {1, 1, 0, 1, 0, 1};
        for (int what = 0; what <= 5; what++) {
            due("LIGHT by BONE odds(" + what + ")", withDice(LIGHT, BONE).odds(what), never[what]);
            due("BONE by LIGHT odds(" + what + ")", withDice(BONE, LIGHT).odds(what), always[what]);
        }
    }

    @Sentence(promise = 11, says = "OUTSIDE; STATE: no HALL.")
    private static void oddsRefusals() {
        int[] outside = {-1, 6, MIN, MAX};
        for (int what : outside) {
            refused(ThrowEdgeTests::jewelLost, "odds(" + what + ")", x -> x.odds(what), OUTSIDE);
            refused(KingdomAtDice::new, "odds(" + what + ") without a HALL", x -> x.odds(what), OUTSIDE);
        }
        for (int what = 0; what <= 5; what++) {
            int one = what;
            refused(() -> page("j1,b2;dd"), "odds(" + what + ") without a HALL", x -> x.odds(one), STATE);
        }
    }
}
