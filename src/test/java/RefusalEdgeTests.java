import java.io.IOException;
import java.util.function.Supplier;
import java.util.function.ToLongFunction;

/** "Refusals, of several the first as told by each call": each call that is wrong in more than one way. */
public final class RefusalEdgeTests extends Dues {
    private static final String FIRST = "Refusals, of several the first as told by each call";
    private static final String KINDS_OF_THEM =
        "UNKNOWN (a number names nothing), OUTSIDE (it is not as told), STATE (as told), FULL; they change nothing.";

    public static void main(String[] args) throws IOException {
        Sentences.run(RefusalEdgeTests.class, 0, 0);
    }

    /** LIGHT by HEAVY, so that both have SUMS that they cannot make: b7 is lost, an IMAGE kept, SEEN and the page full. */
    private static KingdomAtDice rich() {
        KingdomAtDice x = inHall("j4,b7,s6;lh");
        due("lost", x.play(1, NONE, 4, 12), 1);
        due("GOLD", x.play(0, NONE, 6, 4), 0);
        for (int i = 0; i < 8; i++) {
            x.see(2 + i);
        }
        x.image();
        x.forget();
        for (int i = 0; i < 8; i++) {
            x.see(12 - i);
        }
        write(x, "j1,b2;d~jjjjjjjjjjjjjj");
        return x;
    }

    private static KingdomAtDice full() {
        KingdomAtDice x = rich();
        for (int i = 0; i < 28; i++) {
            due("alike", x.play(2, NONE, 6, 6), NONE);
        }
        return x;
    }

    private static KingdomAtDice hallless() {
        KingdomAtDice x = seen(2, 3, 4, 5, 6, 7, 8, 9);
        write(x, "j1,b2;d~jjjjjjjjjjjjjj");
        return x;
    }

    private static void everywhere(String call, ToLongFunction<KingdomAtDice> calling, int want) {
        refused(RefusalEdgeTests::rich, call, calling, want);
        refused(RefusalEdgeTests::full, call + " behind 30 THROWS", calling, want);
        refused(RefusalEdgeTests::hallless, call + " without a HALL", calling, want);
    }

    private static void inBothHalls(String call, ToLongFunction<KingdomAtDice> calling, int want) {
        refused(RefusalEdgeTests::rich, call, calling, want);
        refused(RefusalEdgeTests::full, call + " behind 30 THROWS", calling, want);
    }

    private static void withoutHall(String call, ToLongFunction<KingdomAtDice> calling, int want) {
        refused(KingdomAtDice::new, call + " of a new one", calling, want);
        refused(RefusalEdgeTests::hallless, call + " without a HALL", calling, want);
    }

    @Sentence(promise = 0, says = FIRST)
    private static void letterOutsideThenFull() {
        everywhere("letter(0) of a full page", x -> x.letter(0), OUTSIDE);
        everywhere("letter(127) of a full page", x -> x.letter(127), OUTSIDE);
        everywhere("letter(126) of a full page", x -> x.letter(126), FULL);
    }

    @Sentence(promise = 0, says = FIRST)
    private static void unknownThenOutside() {
        everywhere("thing(3, 6)", x -> x.thing(3, 6), UNKNOWN);
        everywhere("thing(-1, -1)", x -> x.thing(-1, -1), UNKNOWN);
        everywhere("dice(2, 4)", x -> x.dice(2, 4), UNKNOWN);
        everywhere("as(-1, 5)", x -> x.as(-1, 5), UNKNOWN);
        everywhere("ways(2, 1)", x -> x.ways(2, 1), UNKNOWN);
        withoutHall("thing(0, 6)", x -> x.thing(0, 6), UNKNOWN);
        withoutHall("dice(0, 4)", x -> x.dice(0, 4), UNKNOWN);
        withoutHall("as(1, 5)", x -> x.as(1, 5), UNKNOWN);
        withoutHall("ways(1, 13)", x -> x.ways(1, 13), UNKNOWN);
        inBothHalls("thing(2, 6)", x -> x.thing(2, 6), OUTSIDE);
        inBothHalls("dice(1, 4)", x -> x.dice(1, 4), OUTSIDE);
        inBothHalls("as(1, 5)", x -> x.as(1, 5), OUTSIDE);
        inBothHalls("ways(1, 13)", x -> x.ways(1, 13), OUTSIDE);
    }

    @Sentence(promise = 0, says = FIRST)
    private static void playUnknownFirst() {
        everywhere("no stake, no SUM", x -> x.play(3, NONE, 7, 2), UNKNOWN);
        everywhere("no prize, no SUM", x -> x.play(0, 3, 7, 2), UNKNOWN);
        everywhere("no prize, and the stake is the COUSIN's", x -> x.play(1, 3, 6, 4), UNKNOWN);
        everywhere("no stake, and the prize is the KING's", x -> x.play(3, 0, 6, 4), UNKNOWN);
        everywhere("no stake, no prize, no SUM", x -> x.play(MIN, MAX, MIN, MAX), UNKNOWN);
        withoutHall("play(0, NONE, 6, 4)", x -> x.play(0, NONE, 6, 4), UNKNOWN);
    }

    @Sentence(promise = 0, says = FIRST)
    private static void playOutsideThenState() {
        inBothHalls("the KING's SUM, and the stake is the COUSIN's", x -> x.play(1, NONE, 7, 4), OUTSIDE);
        inBothHalls("the COUSIN's SUM, and the stake is the COUSIN's", x -> x.play(1, NONE, 6, 3), OUTSIDE);
        inBothHalls("a SUM, and the prize is the KING's", x -> x.play(0, 2, 7, 4), OUTSIDE);
        inBothHalls("a SUM, and the prize is of more WORTH", x -> x.play(0, 1, 6, 3), OUTSIDE);
        inBothHalls("a SUM alone", x -> x.play(0, NONE, 7, 4), OUTSIDE);
    }

    @Sentence(promise = 0, says = FIRST)
    private static void playStateThenFull() {
        inBothHalls("the stake is the COUSIN's", x -> x.play(1, NONE, 6, 4), STATE);
        inBothHalls("the prize is the KING's", x -> x.play(0, 2, 6, 4), STATE);
        inBothHalls("the prize is of more WORTH", x -> x.play(2, 1, 6, 4), STATE);
        refused(RefusalEdgeTests::full, "the 31st", x -> x.play(2, NONE, 6, 4), FULL);
    }

    @Sentence(promise = 0, says = FIRST)
    private static void outsideThenStateWithoutHall() {
        withoutHall("odds(6)", x -> x.odds(6), OUTSIDE);
        withoutHall("odds(0)", x -> x.odds(0), STATE);
        withoutHall("laws(4, 0)", x -> x.laws(4, 0), OUTSIDE);
        withoutHall("laws(0, 2)", x -> x.laws(0, 2), OUTSIDE);
        withoutHall("laws(3, 1)", x -> x.laws(3, 1), STATE);
        withoutHall("halls(0, 0, 0)", x -> x.halls(0, 0, 0), OUTSIDE);
        withoutHall("halls(1, -1, 0)", x -> x.halls(1, -1, 0), OUTSIDE);
        withoutHall("halls(1, 0, 3)", x -> x.halls(1, 0, 3), OUTSIDE);
        withoutHall("halls(1, 0, 0)", x -> x.halls(1, 0, 0), STATE);
    }

    @Sentence(promise = 0, says = FIRST)
    private static void backUnknownThenOutsideThenState() {
        everywhere("back(3, 0, 0)", x -> x.back(3, 0, 0), UNKNOWN);
        everywhere("back(-1, 1, 2)", x -> x.back(-1, 1, 2), UNKNOWN);
        withoutHall("back(0, 6, 2)", x -> x.back(0, 6, 2), UNKNOWN);
        inBothHalls("back(0, 0, 0) of the KING's", x -> x.back(0, 0, 0), OUTSIDE);
        inBothHalls("back(0, 6, 0) of the KING's", x -> x.back(0, 6, 0), OUTSIDE);
        inBothHalls("back(0, 1, 2) of the KING's", x -> x.back(0, 1, 2), OUTSIDE);
        inBothHalls("back(0, 5, 1) of the KING's", x -> x.back(0, 5, 1), STATE);
        inBothHalls("back(1, 5, 2) of the COUSIN's", x -> x.back(1, 5, 2), OUTSIDE);
    }

    @Sentence(promise = 0, says = FIRST)
    private static void seeOutsideThenFull() {
        everywhere("see(1) above 8", x -> x.see(1), OUTSIDE);
        everywhere("see(13) above 8", x -> x.see(13), OUTSIDE);
        everywhere("see(2) above 8", x -> x.see(2), FULL);
    }

    @Sentence(promise = 0, says = KINDS_OF_THEM)
    private static void theirNumbers() {
        due("NONE", KingdomAtDice.NONE, -1);
        due("UNKNOWN", KingdomAtDice.UNKNOWN, -101);
        due("OUTSIDE", KingdomAtDice.OUTSIDE, -102);
        due("STATE", KingdomAtDice.STATE, -103);
        due("FULL", KingdomAtDice.FULL, -104);
    }

    @Sentence(promise = 0, says = KINDS_OF_THEM)
    private static void theyChangeNothing() {
        changesNothing(RefusalEdgeTests::rich);
        changesNothing(RefusalEdgeTests::full);
        changesNothing(RefusalEdgeTests::hallless);
        changesNothing(KingdomAtDice::new);
    }

    /** Many refusals, one behind the other, on one object. */
    private static void changesNothing(Supplier<KingdomAtDice> made) {
        KingdomAtDice x = made.get();
        int[] odd = {MIN, -102, 61, 127, MAX};
        for (int number : odd) {
            due("letter", x.letter(Math.min(number, 0)), OUTSIDE);
            due("hall", x.hall(), STATE);
            due("thing", x.thing(number, number), UNKNOWN);
            due("dice", x.dice(number, number), UNKNOWN);
            due("as", x.as(number, number), UNKNOWN);
            due("ways", x.ways(number, number), UNKNOWN);
            due("play", x.play(number, NONE, 6, 4), UNKNOWN);
            due("play", x.play(0, number, 6, 4), UNKNOWN);
            due("odds", x.odds(number), OUTSIDE);
            due("back", x.back(number, 1, 0), UNKNOWN);
            due("laws", x.laws(number, 0), OUTSIDE);
            due("see", x.see(number), OUTSIDE);
            due("halls", x.halls(number, 0, 0), OUTSIDE);
            due("count", x.count(number), OUTSIDE);
        }
        likeAnother("refusals of all calls", x, made.get());
    }
}
