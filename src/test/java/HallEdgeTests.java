import java.io.IOException;
import java.util.function.IntFunction;
import java.util.function.ToIntBiFunction;
import java.util.function.ToLongFunction;

/** Edges of what a HALL, THINGS and DICE are, and of promises 1 to 9. */
public final class HallEdgeTests extends Dues {
    private static final int[][] FACES = {{1, 6}, {2, 6}, {1, 6}, {1, 3}, {4, 6}};
    private static final int TWINS = 2;
    private static final String SIX_THINGS = "j1,b2,j3,b4,j5,s6";

    public static void main(String[] args) throws IOException {
        Sentences.run(HallEdgeTests.class, 0, 9);
    }

    private static String jewels(int many) {
        return "j1" + ",j1".repeat(many - 1) + ";dd";
    }

    private static void none(String text, int fault) {
        KingdomAtDice x = page(text);
        due("fault() of " + text, x.fault(), fault);
        due("hall() of " + text, x.hall(), STATE);
    }

    /** Just these letters may come behind a text. */
    private static void fits(String text, String letters) {
        for (int code = 1; code <= 126; code++) {
            KingdomAtDice x = page(text);
            x.letter(code);
            int place = text.length();
            due("fault() of " + text + " and " + code, x.fault(), letters.indexOf(code) < 0 ? place : place + 1);
        }
    }

    // ---- what a HALL is

    @Sentence(promise = 0, says = "two to six THINGS")
    private static void thingsFromTwoToSix() {
        none(";dd", 0);
        none(jewels(1), 2);
        for (int many = 2; many <= 6; many++) {
            due("hall() of " + many, page(jewels(many)).hall(), many);
        }
        // The page has no place for the 23rd letter of it.
        none(jewels(7), 17);
    }

    @Sentence(promise = 0, says = "with \",\" between")
    private static void commasBetween() {
        none("j1b2;dd", 2);
        none("j1 b2;dd", 2);
        none("j1.b2;dd", 2);
        none("j1;b2;dd", 2);
        none(",j1,b2;dd", 0);
        none("j1,,b2;dd", 3);
        none("j1,b2,;dd", 6);
        none("j1,b2;,dd", 6);
        none("j1,b2;d,d", 7);
        none("j1,b2;dd,", 8);
    }

    @Sentence(promise = 0, says = "each a letter, the SORT (0 JEWEL \"j\", 1 BROTHER \"b\", 2 SELF \"s\"")
    private static void sorts() {
        fits("", "jbs");
        fits("j1,", "jbs");
        KingdomAtDice x = inHall("s1,b1,j1;dd");
        due("SELF", x.thing(0, 0), 2);
        due("BROTHER", x.thing(1, 0), 1);
        due("JEWEL", x.thing(2, 0), 0);
    }

    @Sentence(promise = 0, says = "SELF once at most")
    private static void selfOnceAtMost() {
        due("no SELF", page("j1,j1,j1,j1,j1,j1;dd").hall(), 6);
        for (int one = 0; one < 6; one++) {
            StringBuilder text = new StringBuilder("j1,j1,j1,j1,j1,j1;dd");
            text.setCharAt(3 * one, 's');
            due("SELF at " + one, page(text.toString()).hall(), 6);
            for (int other = one + 1; other < 6; other++) {
                StringBuilder twice = new StringBuilder(text);
                twice.setCharAt(3 * other, 's');
                none(twice.toString(), 3 * other);
            }
        }
    }

    @Sentence(promise = 0, says = "a digit, the WORTH (1 to 9)")
    private static void worths() {
        fits("j", "123456789");
        fits("j1,s", "123456789");
        none("j10,b2;dd", 2);
        none("j,b2;dd", 1);
        none("j-1,b2;dd", 1);
        for (int worth = 1; worth <= 9; worth++) {
            due("WORTH", inHall("j1,b" + worth + ";dd").thing(1, 1), worth);
        }
    }

    @Sentence(promise = 0, says = "then \";\" and two letters, the KINDS of DICE, of the KING (0), of the COUSIN (1)")
    private static void twoKinds() {
        fits("j1,b2;", KINDS);
        fits("j1,b2;d", KINDS);
        fits("j1,b2;dd", "");
        for (int king = 0; king < 5; king++) {
            for (int cousin = 0; cousin < 5; cousin++) {
                KingdomAtDice x = withDice(king, cousin);
                due("KIND of the KING", x.dice(0, 0), king);
                due("KIND of the COUSIN", x.dice(1, 0), cousin);
            }
        }
    }

    @Sentence(promise = 0, says = "All are DICE; BONE ones are HEAVY, too.")
    private static void whatIsAlsoWhat() {
        String[] also = {"d", "dh", "dt", "dl", "dhb"};
        for (int kind = 0; kind < 5; kind++) {
            KingdomAtDice x = withDice(kind, kind);
            for (int other = 0; other < 5; other++) {
                boolean is = also[kind].indexOf(KINDS.charAt(other)) >= 0;
                due(kind + " as(0, " + other + ")", x.as(0, other), is ? 0 : NONE);
                due(kind + " as(1, " + other + ")", x.as(1, other), is ? 1 : NONE);
            }
        }
    }

    @Sentence(promise = 0, says = "At first there is none; then all THINGS are the KING's, and he has no GOLD.")
    private static void firstNoneThenAll() {
        KingdomAtDice x = new KingdomAtDice();
        due("THINGS of none", x.count(0), 0);
        due("the KING's of none", x.count(1), 0);
        due("GOLD of none", x.count(3), 0);
        write(x, SIX_THINGS + ";dd");
        x.hall();
        for (int thing = 0; thing < 6; thing++) {
            due("whose " + thing, x.thing(thing, 2), 0);
        }
        due("the KING's", x.count(1), 6);
        due("their WORTH", x.count(2), 21);
        due("GOLD", x.count(3), 0);
        due("not lost RIGHTLY", x.count(5), 0);
    }

    @Sentence(promise = 0, says = "all ways by which they can fall are as likely (of two, by order)")
    private static void falls() {
        for (int kind = 0; kind < 5; kind++) {
            int[] ways = new int[13];
            int all = 0;
            for (int one = FACES[kind][0]; one <= FACES[kind][1]; one++) {
                for (int other = FACES[kind][0]; other <= FACES[kind][1]; other++) {
                    boolean can = kind != TWINS || one == other;
                    ways[one + other] += can ? 1 : 0;
                    all += can ? 1 : 0;
                }
            }
            KingdomAtDice x = withDice(kind, kind);
            for (int sum = 2; sum <= 12; sum++) {
                due(kind + " ways(0, " + sum + ")", x.ways(0, sum), ways[sum]);
                due(kind + " ways(1, " + sum + ")", x.ways(1, sum), ways[sum]);
            }
            due("all ways of " + kind, x.dice(0, 3), all);
        }
    }

    // ---- promises

    @Sentence(promise = 1, says = "No HALL.")
    private static void newOneHasNoHall() {
        KingdomAtDice x = new KingdomAtDice();
        for (int what = 0; what <= 8; what++) {
            due("count(" + what + ")", x.count(what), 0);
        }
        for (int number = 0; number < 6; number++) {
            due("thing(" + number + ", 0)", x.thing(number, 0), UNKNOWN);
            due("odds(" + number + ")", x.odds(number), STATE);
        }
        due("image()", x.image(), STATE);
        due("another object's HALL is not its own", inHall(jewels(2)).count(0) - x.count(0), 2);
    }

    @Sentence(promise = 2, says = "OUTSIDE: code (1 to 126)")
    private static void codes() {
        for (int code = 1; code <= 126; code++) {
            due("letter(" + code + ")", new KingdomAtDice().letter(code), 1);
        }
        // The last three would be 'j', if they were cut short to a char or a byte.
        int[] outside = {0, -1, 127, 128, MIN, MAX, 106 - 256, 106 + 65536, 106 + 256};
        for (int code : outside) {
            refused(() -> page("j1"), "letter(" + code + ")", x -> x.letter(code), OUTSIDE);
        }
    }

    @Sentence(promise = 2, says = "FULL: above 22")
    private static void lettersAbove22() {
        KingdomAtDice x = new KingdomAtDice();
        for (int many = 1; many <= 22; many++) {
            due("letter('j')", x.letter('j'), many);
        }
        due("the 23rd", x.letter('j'), FULL);
        due("the 23rd again", x.letter(126), FULL);
        due("letters", x.count(7), 22);
        refused(() -> page("b".repeat(22)), "letter('j')", y -> y.letter('j'), FULL);
        x.blank();
        due("behind blank()", x.letter('j'), 1);
    }

    @Sentence(promise = 3, says = "THE PAGE is empty: how many letters it had.")
    private static void blanks() {
        due("of a new one", new KingdomAtDice().blank(), 0);
        due("of one letter", page("j").blank(), 1);
        KingdomAtDice x = inHall("j4,b7;dd");
        lose(x, 0);
        write(x, "x".repeat(23));
        due("of a full one", x.blank(), 22);
        due("of an empty one", x.blank(), 0);
        due("THE HALL stays", x.count(0), 2);
        due("what is lost stays", x.count(1), 1);
        write(x, "j1");
        due("no letter of before stands behind the new ones", x.fault(), 2);
        due("letters", x.count(7), 2);
    }

    @Sentence(promise = 4, says = "The place (from 0) of the first letter of THE PAGE that no HALL has there, behind those ahead of it")
    private static void faultAtEveryPlace() {
        String text = "j1,s2,b3,j4,b5,j6;hb";
        String[] letters = {"jbs", "123456789", ",", "jbs", "123456789", ",;", "jb", "123456789", ",;", "jb",
            "123456789", ",;", "jb", "123456789", ",;", "jb", "123456789", ";", KINDS, KINDS, ""};
        for (int place = 0; place <= text.length(); place++) {
            fits(text.substring(0, place), letters[place]);
        }
        due("the first of two", page("j0,x").fault(), 1);
        due("what would fit again stays behind it", page("xj1,b2;dd").fault(), 0);
    }

    @Sentence(promise = 4, says = "how many letters it has, if there is none")
    private static void faultOfNone() {
        due("fault() of an empty page", new KingdomAtDice().fault(), 0);
        String text = SIX_THINGS + ";tl";
        KingdomAtDice x = new KingdomAtDice();
        for (int place = 0; place < text.length(); place++) {
            x.letter(text.charAt(place));
            due("fault() of " + text.substring(0, place + 1), x.fault(), place + 1);
        }
        x.letter('d');
        due("behind a whole HALL", x.fault(), 20);
        x.letter('d');
        due("of a full page", x.fault(), 20);
        due("of a full page of other letters", page("~".repeat(22)).fault(), 0);
    }

    @Sentence(promise = 5, says = "STATE: it is none.")
    private static void noHall() {
        String text = SIX_THINGS + ";tl";
        for (int length = 0; length < text.length(); length++) {
            String part = text.substring(0, length);
            refused(() -> page(part), "hall() of " + part, x -> x.hall(), STATE);
        }
        refused(() -> page(text + "t"), "a letter too many", x -> x.hall(), STATE);
        refused(() -> page(text + "tt"), "a full page", x -> x.hall(), STATE);
        refused(() -> fullHall("j1,s1,s1;dd"), "hall() in a HALL", x -> x.hall(), STATE);
        refused(() -> fullHall(""), "hall() of an empty page in a HALL", x -> x.hall(), STATE);
        KingdomAtDice x = page("j1,b2;d");
        x.hall();
        x.letter('d');
        due("what was none may become one", x.hall(), 2);
    }

    /** A HALL with all that can be: losses of both ways, GOLD, 30 THROWS, SEEN, an IMAGE, a page. */
    private static KingdomAtDice fullHall(String page) {
        KingdomAtDice x = inHall("s9,b8,j7,b6,j5,j4;hd");
        due("GOLD", x.play(1, NONE, 12, 2), 0);
        lose(x, 0, 2, 3);
        due("won back", x.play(1, 2, 12, 2), 0);
        x.see(7);
        x.image();
        throwAlike(x, 1, 24);
        lose(x, 5);
        for (int i = 0; i < 7; i++) {
            x.see(12);
        }
        write(x, page);
        return x;
    }

    @Sentence(promise = 5, says = "(another one is gone, with all that was)")
    private static void anotherIsGone() {
        KingdomAtDice x = fullHall("j3,b3;tl");
        due("hall()", x.hall(), 2);
        // Both digests end with how often a HALL was read, and may differ by that alone.
        due("as in a new one, but read twice", x.digest() - inHall("j3,b3;tl").digest(), 1);
        due("restore()", x.restore(), STATE);
        for (int thing = 2; thing < 6; thing++) {
            due("thing(" + thing + ", 0)", x.thing(thing, 0), UNKNOWN);
        }
        for (int i = 0; i < 30; i++) {
            due("30 THROWS again", x.play(0, NONE, 6, 6), NONE);
        }
        due("the 31st", x.play(0, NONE, 6, 6), FULL);
        for (int many = 1; many <= 8; many++) {
            due("8 SUMS again", x.see(2), many);
        }
    }

    @Sentence(promise = 5, says = "(another one is gone, with all that was)")
    private static void selfIsGoneWithIt() {
        KingdomAtDice x = inHall("s9,b8;dd");
        lose(x, 0);
        write(x, "b1,j2;dd");
        x.hall();
        lose(x, 0);
        due("there is no SELF any more", x.thing(0, 4), 1);
        write(x, "j1,s2;dd");
        x.hall();
        lose(x, 1, 0);
        due("there is one again", x.thing(0, 4), 0);
    }

    @Sentence(promise = 5, says = "THE PAGE is empty then")
    private static void pageIsEmptyThen() {
        KingdomAtDice x = inHall(jewels(6));
        due("letters", x.count(7), 0);
        due("fault()", x.fault(), 0);
        due("blank()", x.blank(), 0);
        due("hall() again", x.hall(), STATE);
        due("the first letter", x.letter('j'), 1);
    }

    @Sentence(promise = 6, says = "UNKNOWN; OUTSIDE.")
    private static void thingsAndWhats() {
        String[] texts = {jewels(2), jewels(6)};
        for (String text : texts) {
            int many = inHall(text).count(0);
            due("the last THING", inHall(text).thing(many - 1, 0), 0);
            int[] unknown = {-1, many, MIN, MAX, -6};
            for (int thing : unknown) {
                refused(() -> inHall(text), "thing(" + thing + ", 0)", x -> x.thing(thing, 0), UNKNOWN);
                refused(() -> inHall(text), "thing(" + thing + ", 6)", x -> x.thing(thing, 6), UNKNOWN);
            }
            int[] outside = {-1, 6, MIN, MAX};
            for (int what : outside) {
                refused(() -> inHall(text), "thing(0, " + what + ")", x -> x.thing(0, what), OUTSIDE);
            }
        }
        due("thing(0, 0) without a HALL", new KingdomAtDice().thing(0, 0), UNKNOWN);
        due("thing(0, 6) without a HALL", new KingdomAtDice().thing(0, 6), UNKNOWN);
    }

    @Sentence(promise = 6, says = "3 by which THROW it was lost last (1 the first one; NONE: by none)")
    private static void lostLast() {
        KingdomAtDice x = inHall("j1,j2,j3;dd");
        due("by none", x.thing(0, 3), NONE);
        lose(x, 0);
        due("by the first", x.thing(0, 3), 1);
        throwAlike(x, 1, 28);
        lose(x, 1);
        due("by the 30th", x.thing(1, 3), 30);
        due("yet by the first", x.thing(0, 3), 1);
        due("a THING that was staked, and not lost", x.thing(2, 3), NONE);

        KingdomAtDice again = inHall("j1,j2;dd");
        lose(again, 0);
        again.play(1, 0, 12, 2);
        due("won back: lost last by the first", again.thing(0, 3), 1);
        lose(again, 0);
        due("lost again, by the third", again.thing(0, 3), 3);
    }

    @Sentence(promise = 6, says = "4 whether that was RIGHTLY (1, 0; NONE: it was not lost)")
    private static void lastRightly() {
        KingdomAtDice x = inHall("s1,j2,j3;dd");
        due("not lost", x.thing(1, 4), NONE);
        lose(x, 0, 1);
        due("SELF", x.thing(0, 4), 1);
        due("behind SELF", x.thing(1, 4), 0);
        x.play(2, 1, 12, 2);
        due("won back: the last loss was not RIGHTLY", x.thing(1, 4), 0);
        x.play(2, 0, 12, 2);
        lose(x, 1);
        due("lost again, RIGHTLY", x.thing(1, 4), 1);
        due("never lost", x.thing(2, 4), NONE);
    }

    @Sentence(promise = 6, says = "5 how often it went over")
    private static void wentOver() {
        KingdomAtDice x = inHall("j1,j2;dd");
        due("never", x.thing(0, 5), 0);
        for (int i = 0; i < 15; i++) {
            lose(x, 0);
            due("there", x.thing(0, 5), 2 * i + 1);
            due("won back", x.play(1, 0, 12, 2), 0);
            due("and back", x.thing(0, 5), 2 * i + 2);
        }
        due("what won it back", x.thing(1, 5), 0);
        due("THROWS", x.count(4), 30);
    }

    private static void whoIsUnknown(String call, IntFunction<ToLongFunction<KingdomAtDice>> of) {
        int[] unknown = {-1, 2, MIN, MAX};
        for (int who : unknown) {
            refused(() -> inHall("j1,b2;hb"), call + " of " + who, of.apply(who), UNKNOWN);
        }
        for (int who = 0; who <= 1; who++) {
            refused(KingdomAtDice::new, call + " of " + who + " without a HALL", of.apply(who), UNKNOWN);
            refused(() -> page("j1,b2;hb"), call + " of " + who + " ahead of hall()", of.apply(who), UNKNOWN);
        }
    }

    private static void outsideForBoth(String call, int number, ToIntBiFunction<KingdomAtDice, Integer> of) {
        for (int who = 0; who <= 1; who++) {
            int one = who;
            refused(() -> inHall("j1,b2;hb"), call + "(" + who + ", " + number + ")", x -> of.applyAsInt(x, one), OUTSIDE);
        }
    }

    @Sentence(promise = 7, says = "UNKNOWN: who (also without a HALL); OUTSIDE.")
    private static void diceRefusals() {
        whoIsUnknown("dice", who -> x -> x.dice(who, 0));
        whoIsUnknown("dice, and no such what,", who -> x -> x.dice(who, 4));
        int[] outside = {-1, 4, MIN, MAX};
        for (int what : outside) {
            outsideForBoth("dice", what, (x, who) -> x.dice(who, what));
        }
    }

    @Sentence(promise = 7, says = "1 the least SUM, 2 the greatest SUM, 3 in how many ways they can fall")
    private static void leastAndGreatest() {
        for (int kind = 0; kind < 5; kind++) {
            KingdomAtDice x = withDice(kind, (kind + 1) % 5);
            int least = x.dice(0, 1);
            int greatest = x.dice(0, 2);
            due("the least of " + kind, least, 2 * FACES[kind][0]);
            due("the greatest of " + kind, greatest, 2 * FACES[kind][1]);
            due("the least can be", x.ways(0, least), 1);
            due("the greatest can be", x.ways(0, greatest), 1);
            due("none below it", least == 2 ? 0 : x.ways(0, least - 1), 0);
            due("none above it", greatest == 12 ? 0 : x.ways(0, greatest + 1), 0);
            int all = 0;
            for (int sum = 2; sum <= 12; sum++) {
                all += x.ways(0, sum);
            }
            due("all ways of " + kind, x.dice(0, 3), all);
        }
    }

    @Sentence(promise = 8, says = "UNKNOWN; OUTSIDE.")
    private static void asRefusals() {
        whoIsUnknown("as", who -> x -> x.as(who, 0));
        whoIsUnknown("as, and no such kind,", who -> x -> x.as(who, 5));
        int[] outside = {-1, 5, MIN, MAX};
        for (int kind : outside) {
            outsideForBoth("as", kind, (x, who) -> x.as(who, kind));
        }
    }

    @Sentence(promise = 8, says = "NONE: they are none such (the cast fails)")
    private static void castFails() {
        KingdomAtDice x = inHall("j1,b2;hb");
        due("HEAVY as BONE", x.as(0, 4), NONE);
        due("BONE as HEAVY", x.as(1, 1), 1);
        due("HEAVY as TWINS", x.as(0, 2), NONE);
        due("BONE as LIGHT", x.as(1, 3), NONE);
        due("they stay what they are", x.dice(1, 0), 4);
    }

    @Sentence(promise = 9, says = "UNKNOWN; OUTSIDE: sum (2 to 12)")
    private static void waysRefusals() {
        whoIsUnknown("ways", who -> x -> x.ways(who, 7));
        whoIsUnknown("ways, and no such sum,", who -> x -> x.ways(who, 13));
        for (int sum : NO_SUMS) {
            outsideForBoth("ways", sum, (x, who) -> x.ways(who, sum));
        }
        for (int kind = 0; kind < 5; kind++) {
            due("2 of " + kind, withDice(kind, kind).ways(0, 2), kind == 1 || kind == 4 ? 0 : 1);
            due("12 of " + kind, withDice(kind, kind).ways(1, 12), kind == 3 ? 0 : 1);
        }
    }
}
