import java.io.IOException;
import java.math.BigInteger;
import java.util.ArrayList;
import java.util.List;

/** Edges of what an IMAGE is, of promises 19 to 22, and of a long use. */
public final class AllEdgeTests extends Dues {
    public static void main(String[] args) throws IOException {
        Sentences.run(AllEdgeTests.class, 19, 22);
    }

    /** Losses of both ways, one won back, GOLD, SEEN: six THROWS. */
    private static KingdomAtDice played() {
        KingdomAtDice x = inHall("s9,b8,j7,b6,j5,j4;dd");
        due("GOLD", x.play(1, NONE, 12, 2), 0);
        lose(x, 3, 0, 2, 4);
        due("won back", x.play(1, 2, 12, 2), 0);
        x.see(7);
        x.see(9);
        return x;
    }

    // ---- what an IMAGE is

    @Sentence(promise = 0, says = "An IMAGE keeps whose all THINGS are, when and how they were lost, how often they went over, GOLD, THROWS, SEEN.")
    private static void imageKeepsAll() {
        KingdomAtDice x = played();
        due("image()", x.image(), 6);
        x.play(1, 0, 12, 2);
        x.play(1, 3, 12, 2);
        x.play(1, NONE, 12, 2);
        lose(x, 2, 3, 1, 5);
        x.forget();
        x.see(2);
        x.see(2);
        due("restore()", x.restore(), 6);
        int[][] things = {{2, 9, 1, 3, 1, 1}, {1, 8, 0, NONE, NONE, 0}, {0, 7, 0, 4, 0, 2}, {1, 6, 1, 2, 1, 1},
            {0, 5, 1, 5, 0, 1}, {0, 4, 0, NONE, NONE, 0}};
        for (int thing = 0; thing < 6; thing++) {
            for (int what = 0; what <= 5; what++) {
                due("thing(" + thing + ", " + what + ")", x.thing(thing, what), things[thing][what]);
            }
        }
        due("GOLD", x.count(3), 8);
        due("THROWS", x.count(4), 6);
        due("SEEN", x.count(6), 2);
        due("which SUMS are SEEN", x.which(), seen(7, 9).which());
        due("as it was", x.digest(), played().digest());
    }

    @Sentence(promise = 0, says = "An object is used for at most 512 calls after it has been made; what later calls answer is free.")
    private static void aLongUse() {
        KingdomAtDice x = new KingdomAtDice();
        for (int read = 1; read <= 56; read++) {
            write(x, "j4,s7;dd");
            due("hall()", x.hall(), 2);
        }
        // 504 calls have been; eight more may be.
        due("how often a HALL was read", x.count(8), 56);
        lose(x, 1, 0);
        due("the last loss", x.thing(0, 3), 2);
        due("not lost RIGHTLY", x.count(5), 1);
        due("image()", x.image(), 2);
        due("restore()", x.restore(), 2);
        due("the 512th", x.halls(60, 0, 2), 0);
    }

    // ---- promises

    @Sentence(promise = 19, says = "An IMAGE is kept (one; the latest): how many THROWS there were.")
    private static void theLatestIsKept() {
        KingdomAtDice x = inHall("j4,b7,s6;dd");
        due("of no THROW", x.image(), 0);
        lose(x, 0);
        due("of one", x.image(), 1);
        lose(x, 1);
        due("the latest", x.restore(), 1);
        due("the KING's", x.count(1), 2);
        due("not the one before it", x.restore(), 1);
        throwAlike(x, 1, 29);
        due("of 30", x.image(), 30);
        due("restore()", x.restore(), 30);
        due("the 31st", x.play(1, NONE, 12, 2), FULL);
    }

    @Sentence(promise = 19, says = "STATE: no HALL.")
    private static void noImageWithoutHall() {
        refused(KingdomAtDice::new, "image()", x -> x.image(), STATE);
        refused(() -> page("j1,b2;dd"), "image() ahead of hall()", x -> x.image(), STATE);
        refused(() -> seen(5, 6), "image() of what is SEEN", x -> x.image(), STATE);
        KingdomAtDice x = page("j1,b2;dd");
        x.image();
        x.hall();
        due("nothing was kept", x.restore(), STATE);
    }

    @Sentence(promise = 20, says = "It goes on from the IMAGE: how many THROWS there were.")
    private static void goesOnFromIt() {
        KingdomAtDice x = inHall("j4,b7;dd");
        x.image();
        for (int i = 0; i < 3; i++) {
            lose(x, 0);
            due("lost by the first", x.thing(0, 3), 1);
            lose(x, 1);
            due("restore()", x.restore(), 0);
            due("all are the KING's", x.count(1), 2);
            due("never lost", x.thing(0, 3), NONE);
        }
        due("restore() with nothing between", x.restore(), 0);
        due("as a new HALL", x.digest(), inHall("j4,b7;dd").digest());
    }

    @Sentence(promise = 20, says = "It goes on from the IMAGE")
    private static void whatItDoesNotKeep() {
        KingdomAtDice x = played();
        write(x, "j1");
        x.image();
        write(x, ",b");
        x.restore();
        due("letters that came since stay", x.count(7), 4);
        due("they are the same", x.fault(), 4);
        x.blank();
        x.restore();
        due("letters that are gone stay so", x.count(7), 0);
        due("how often a HALL was read", x.count(8), 1);
    }

    @Sentence(promise = 20, says = "STATE: none was kept")
    private static void noneWasKept() {
        refused(KingdomAtDice::new, "restore() of a new one", x -> x.restore(), STATE);
        refused(() -> page("j1,b2;dd"), "restore() ahead of hall()", x -> x.restore(), STATE);
        refused(AllEdgeTests::played, "restore()", x -> x.restore(), STATE);
    }

    @Sentence(promise = 20, says = "or there is another HALL since")
    private static void anotherHallSince() {
        refused(() -> readAgain("s9,b8,j7,b6,j5,j4;dd"), "restore() in a HALL of the same text", x -> x.restore(), STATE);
        refused(() -> readAgain("j1,b2;tl"), "restore() in a HALL of another text", x -> x.restore(), STATE);
        KingdomAtDice x = readAgain("j1,b2;tl");
        due("image()", x.image(), 0);
        due("restore()", x.restore(), 0);
        due("it is of the HALL of now", x.count(0), 2);

        KingdomAtDice none = played();
        none.image();
        lose(none, 1);
        write(none, "j1,b2;t");
        due("what is no HALL", none.hall(), STATE);
        due("takes no IMAGE", none.restore(), 6);
    }

    private static KingdomAtDice readAgain(String text) {
        KingdomAtDice x = played();
        x.image();
        write(x, text);
        x.hall();
        return x;
    }

    @Sentence(promise = 21, says = "0 THINGS, 1 that are the KING's, 2 WORTH of these, 3 GOLD, 4 THROWS")
    private static void leastAndMost() {
        KingdomAtDice x = inHall("j9,j9,j9,j9,j9,j9;dd");
        countsAre(x, 6, 6, 54, 0, 0, 0, 0, 0, 1);
        for (int i = 0; i < 30; i++) {
            x.play(0, NONE, 12, 2);
        }
        countsAre(x, 6, 6, 54, 270, 30, 0, 0, 0, 1);
        KingdomAtDice all = inHall("j1,j1;dd");
        countsAre(all, 2, 2, 2, 0, 0, 0, 0, 0, 1);
        lose(all, 1, 0);
        countsAre(all, 2, 0, 0, 0, 2, 0, 0, 0, 1);
        countsAre(new KingdomAtDice(), 0, 0, 0, 0, 0, 0, 0, 0, 0);
    }

    private static void countsAre(KingdomAtDice x, int... counts) {
        for (int what = 0; what <= 8; what++) {
            due("count(" + what + ")", x.count(what), counts[what]);
        }
    }

    @Sentence(promise = 21, says = "5 that were not lost RIGHTLY (of those that are the COUSIN's)")
    private static void notLostRightly() {
        KingdomAtDice x = inHall("s9,b8,j7,b6,j5,j4;dd");
        lose(x, 0);
        due("SELF alone", x.count(5), 0);
        lose(x, 5, 4, 3, 2);
        due("four", x.count(5), 4);
        due("one is won back", x.play(1, 2, 12, 2), 0);
        due("three", x.count(5), 3);
        lose(x, 2, 1);
        due("all but SELF", x.count(5), 5);
    }

    @Sentence(promise = 21, says = "6 SUMS that are SEEN, 7 letters of THE PAGE, 8 how often a HALL was read")
    private static void fullOfAll() {
        KingdomAtDice x = inHall("j1,b2;dd");
        for (int i = 0; i < 9; i++) {
            x.see(12);
        }
        write(x, "j".repeat(23));
        x.hall();
        countsAre(x, 2, 2, 3, 0, 0, 0, 8, 22, 1);
        x.blank();
        x.forget();
        write(x, "j1,b2;dd");
        x.hall();
        countsAre(x, 2, 2, 3, 0, 0, 0, 0, 0, 2);
    }

    @Sentence(promise = 21, says = "OUTSIDE.")
    private static void countRefusals() {
        int[] outside = {-1, 9, MIN, MAX};
        for (int what : outside) {
            refused(KingdomAtDice::new, "count(" + what + ") of a new one", x -> x.count(what), OUTSIDE);
            refused(AllEdgeTests::played, "count(" + what + ")", x -> x.count(what), OUTSIDE);
        }
    }

    /** The digest of numbers, by whole numbers of any size, cut to a long at last. */
    private static long digestOf(List<Long> numbers) {
        BigInteger h = BigInteger.valueOf(983);
        for (long number : numbers) {
            h = h.multiply(BigInteger.valueOf(31)).add(BigInteger.valueOf(number));
        }
        return h.longValue();
    }

    private static void add(List<Long> numbers, long... more) {
        for (long number : more) {
            numbers.add(number);
        }
    }

    @Sentence(promise = 22, says = "h is 983, then for each of these numbers, in order, 31 times h, and it (as longs, wrapping)")
    private static void digestOfANewOne() {
        List<Long> numbers = new ArrayList<>();
        add(numbers, 31, 0);
        add(numbers, 0, 0, 0, 0, 0, 0, 0, 0, 0);
        due("digest()", new KingdomAtDice().digest(), digestOf(numbers));
    }

    @Sentence(promise = 22, says = "WHICH, LIKELY; letters of THE PAGE; what count() tells for 0 to 8")
    private static void digestWithoutHall() {
        KingdomAtDice x = page("~" + "j".repeat(21));
        for (int i = 0; i < 8; i++) {
            x.see(10);
        }
        List<Long> numbers = new ArrayList<>();
        add(numbers, 1 + 2 + 4 + 16, 4, 126);
        for (int i = 0; i < 21; i++) {
            add(numbers, 'j');
        }
        add(numbers, 0, 0, 0, 0, 0, 0, 8, 22, 0);
        due("digest()", x.digest(), digestOf(numbers));
    }

    @Sentence(promise = 22, says = "of each THING what thing() tells for 0 to 5; if it is the COUSIN's, also what back() tells of 3 THROWS for 0 and 1")
    private static void digestOfAHall() {
        KingdomAtDice x = inHall("s2,j4,b4;tt");
        lose(x, 0, 1);
        x.letter(1);
        List<Long> numbers = new ArrayList<>();
        add(numbers, 2, 2, 1, 1, 1, 1, 215, 432);
        add(numbers, 0, 4, 1, 2, 0, 1, 215, 432);
        add(numbers, 1, 4, 0, NONE, NONE, 0);
        add(numbers, 2, 2, 12, 6, 2, 2, 12, 6);
        add(numbers, 5, 12, 5, 12, 1, 6);
        add(numbers, 4, 4, 6, 8, 4, 4, 6, 8);
        add(numbers, 31, 0, 1);
        add(numbers, 3, 1, 4, 0, 2, 1, 0, 1, 1);
        due("digest()", x.digest(), digestOf(numbers));
    }

    @Sentence(promise = 22, says = "if it is the COUSIN's, also what back() tells")
    private static void digestOfNoStake() {
        KingdomAtDice x = inHall("j9,b9;lb");
        x.play(0, NONE, 2, 12);
        x.play(1, NONE, 6, 8);
        List<Long> numbers = new ArrayList<>();
        add(numbers, 0, 9, 1, 1, 1, 1, 0, 1);
        add(numbers, 1, 9, 1, 2, 1, 1, 0, 1);
        add(numbers, 3, 2, 6, 9, 4, 8, 12, 9);
        add(numbers, 0, 1, 1, 1, 0, 1);
        add(numbers, 0, 0, 0, 0, 2, 9, 2, 9);
        add(numbers, 31, 0);
        add(numbers, 2, 0, 0, 0, 2, 0, 0, 0, 1);
        due("digest()", x.digest(), digestOf(numbers));
        due("digest() changes nothing", x.digest(), digestOf(numbers));
    }
}
