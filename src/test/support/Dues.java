import java.util.function.Supplier;
import java.util.function.ToLongFunction;

/** Answers beside those that are due, and halls to begin with: what the project's tests share. */
abstract class Dues {
    static final int NONE = -1, UNKNOWN = -101, OUTSIDE = -102, STATE = -103, FULL = -104;
    static final int MIN = Integer.MIN_VALUE, MAX = Integer.MAX_VALUE;
    static final int[] NO_SUMS = {MIN, -7, -1, 0, 1, 13, 14, 127, MAX};
    static final String KINDS = "dhtlb";
    private static String about = "";
    private static int wrong = 0;

    static void about(String words) {
        about = words;
    }

    static void due(String call, long got, long want) {
        if (got != want) {
            tellWrong(call + " answered " + got + ", due is " + want);
        }
    }

    static void tellWrong(String words) {
        wrong++;
        System.out.println(about + ": " + words);
    }

    static void end() {
        System.out.println(wrong == 0 ? "all answers are as due" : wrong + " answers are not as due");
        if (wrong != 0) {
            System.exit(1);
        }
    }

    static void write(KingdomAtDice x, String text) {
        for (int i = 0; i < text.length(); i++) {
            x.letter(text.charAt(i));
        }
    }

    static KingdomAtDice page(String text) {
        KingdomAtDice x = new KingdomAtDice();
        write(x, text);
        return x;
    }

    static KingdomAtDice inHall(String text) {
        KingdomAtDice x = page(text);
        due("hall() of " + text, x.hall(), (text.length() - 2) / 3);
        return x;
    }

    /** A hall of two like jewels, for what the dice alone tell. */
    static KingdomAtDice withDice(int king, int cousin) {
        return inHall("j1,j1;" + KINDS.charAt(king) + KINDS.charAt(cousin));
    }

    static KingdomAtDice seen(int... sums) {
        KingdomAtDice x = new KingdomAtDice();
        for (int sum : sums) {
            x.see(sum);
        }
        return x;
    }

    /** The king loses things, one by one, with dice d or h or t of his and d or h or t or b of the cousin. */
    static void lose(KingdomAtDice x, int... things) {
        for (int thing : things) {
            due("play(" + thing + ", NONE, 4, 12)", x.play(thing, NONE, 4, 12), 1);
        }
    }

    /** So many throws for gold that are alike. */
    static void throwAlike(KingdomAtDice x, int stake, int many) {
        for (int i = 0; i < many; i++) {
            due("play(" + stake + ", NONE, 8, 8)", x.play(stake, NONE, 8, 8), NONE);
        }
    }

    /** A call is refused, and what is told of all, and of what was kept, is as if it had not been made. */
    static void refused(Supplier<KingdomAtDice> made, String call, ToLongFunction<KingdomAtDice> calling, int want) {
        KingdomAtDice x = made.get();
        due(call, calling.applyAsLong(x), want);
        likeAnother(call, x, made.get());
    }

    static void likeAnother(String call, KingdomAtDice x, KingdomAtDice other) {
        due("digest() behind " + call, x.digest(), other.digest());
        due("restore() behind " + call, x.restore(), other.restore());
        due("digest() of the image behind " + call, x.digest(), other.digest());
    }
}
