/** For each promise of the document: ordinary inputs, the edges it names, wrong inputs. Answers are worked out by hand. */
public final class PromiseTests extends Dues {
    public static void main(String[] args) {
        newObject();
        letter();
        blank();
        fault();
        hall();
        thing();
        dice();
        as();
        ways();
        play();
        playRefusals();
        odds();
        back();
        laws();
        see();
        forget();
        which();
        likely();
        halls();
        image();
        restore();
        count();
        digest();
        end();
    }

    private static void newObject() {
        about("promise 1");
        KingdomAtDice x = new KingdomAtDice();
        for (int what = 0; what <= 8; what++) {
            due("count(" + what + ")", x.count(what), 0);
        }
        due("thing(0, 0)", x.thing(0, 0), UNKNOWN);
        due("dice(0, 0)", x.dice(0, 0), UNKNOWN);
        due("as(0, 0)", x.as(0, 0), UNKNOWN);
        due("ways(0, 7)", x.ways(0, 7), UNKNOWN);
        due("play(0, -1, 4, 4)", x.play(0, NONE, 4, 4), UNKNOWN);
        due("back(0, 1, 0)", x.back(0, 1, 0), UNKNOWN);
        due("odds(0)", x.odds(0), STATE);
        due("laws(0, 0)", x.laws(0, 0), STATE);
        due("halls(1, 0, 0)", x.halls(1, 0, 0), STATE);
        due("image()", x.image(), STATE);
        due("restore()", x.restore(), STATE);
        due("hall()", x.hall(), STATE);
        due("fault()", x.fault(), 0);
        due("blank()", x.blank(), 0);
        due("forget()", x.forget(), 0);
        due("which()", x.which(), 31);
        due("likely()", x.likely(), 0);
    }

    private static void letter() {
        about("promise 2");
        KingdomAtDice x = new KingdomAtDice();
        int[] outside = {0, -1, 127, MIN, MAX};
        for (int code : outside) {
            due("letter(" + code + ")", x.letter(code), OUTSIDE);
        }
        due("letter(1)", x.letter(1), 1);
        due("letter(126)", x.letter(126), 2);
        for (int many = 3; many <= 22; many++) {
            due("letter(64)", x.letter(64), many);
        }
        due("letter(64) above 22", x.letter(64), FULL);
        due("letter(0) above 22", x.letter(0), OUTSIDE);
        due("count(7)", x.count(7), 22);
    }

    private static void blank() {
        about("promise 3");
        KingdomAtDice x = page("j1,");
        due("blank()", x.blank(), 3);
        due("blank()", x.blank(), 0);
        due("count(7)", x.count(7), 0);
        due("letter('j')", x.letter('j'), 1);
        due("fault()", x.fault(), 1);
    }

    private static void fault() {
        about("promise 4");
        Object[][] pages = {
            {"", 0}, {"j", 1}, {"x", 0}, {"J", 0}, {"1", 0}, {"j0", 1}, {"jj", 1}, {"j9", 2},
            {"j1;", 2}, {"j1,;", 3}, {"j1,b2;", 6}, {"j1,b2,", 6}, {"j1,b2;;", 6}, {"j1,b2;d", 7},
            {"j1,b2;db", 8}, {"j1,b2;dj", 7}, {"j1,b2;dbd", 8}, {"j1,b2;db;", 8},
            {"s1,s2;dd", 3}, {"j1,s2,b3,s4;dd", 9}, {"s1,j2;s", 6}, {"j1,b2 ;dd", 5},
            {"j1,j1,j1,j1,j1,j1,", 17}, {"j1,j1,j1,j1,j1,j1;dh", 20}, {"j1,j1,j1,j1,j1,j1;dhx", 20},
            {"b1,b2;bb", 8}, {"j1,j2;tl", 8}, {"j1,j2,d", 6}, {"j1,h", 3},
        };
        for (Object[] row : pages) {
            String text = (String) row[0];
            due("fault() of " + text, page(text).fault(), (Integer) row[1]);
        }
    }

    private static void hall() {
        about("promise 5");
        String[] none = {"", "j1", "j1;dd", "j1,b2", "j1,b2;", "j1,b2;d", "j1,b2;ddd", "s1,s2;dd", "j0,b2;dd",
            "j1,j1,j1,j1,j1,j1,j1;dd", "j1,b2;dj", "j1,b2;;;", ";dd", "j1,b2,;dd"};
        for (String text : none) {
            KingdomAtDice x = page(text);
            due("hall() of " + text, x.hall(), STATE);
            due("count(7) of " + text, x.count(7), Math.min(22, text.length()));
            due("count(8) of " + text, x.count(8), 0);
        }
        due("things", inHall("j1,b2;dh").count(0), 2);
        due("things", inHall("j1,b2,s3,b4,j5,j6;tl").count(0), 6);

        KingdomAtDice x = inHall("j5,s3;dt");
        x.play(0, NONE, 12, 2);
        lose(x, 1);
        lose(x, 0);
        x.see(7);
        x.image();
        write(x, "j1,b2");
        due("hall()", x.hall(), STATE);
        due("count(0)", x.count(0), 2);
        due("count(1)", x.count(1), 0);
        due("restore()", x.restore(), 3);
        write(x, ",b4;bl");
        due("hall()", x.hall(), 3);
        due("count(7): the page is empty", x.count(7), 0);
        due("count(1)", x.count(1), 3);
        due("count(2)", x.count(2), 7);
        due("count(3)", x.count(3), 0);
        due("count(4)", x.count(4), 0);
        due("count(6): all that was is gone", x.count(6), 0);
        due("count(8)", x.count(8), 2);
        due("thing(0, 3)", x.thing(0, 3), NONE);
        due("thing(0, 4)", x.thing(0, 4), NONE);
        due("thing(0, 5)", x.thing(0, 5), 0);
        due("dice(0, 0)", x.dice(0, 0), 4);
        due("dice(1, 0)", x.dice(1, 0), 3);
        due("odds(0)", x.odds(0), 1);
        due("odds(2)", x.odds(2), 0);
        due("odds(5)", x.odds(5), 1);
        due("restore(): another hall", x.restore(), STATE);
    }

    private static void thing() {
        about("promise 6");
        KingdomAtDice x = inHall("j9,b5,s1;dd");
        for (int thing = 0; thing < 3; thing++) {
            due("sort of " + thing, x.thing(thing, 0), thing);
            due("whose " + thing, x.thing(thing, 2), 0);
            due("lost by " + thing, x.thing(thing, 3), NONE);
            due("rightly " + thing, x.thing(thing, 4), NONE);
            due("went over " + thing, x.thing(thing, 5), 0);
        }
        due("worth of 0", x.thing(0, 1), 9);
        due("worth of 1", x.thing(1, 1), 5);
        due("worth of 2", x.thing(2, 1), 1);
        int[] unknown = {-1, 3, 6, MIN, MAX};
        for (int thing : unknown) {
            due("thing(" + thing + ", 0)", x.thing(thing, 0), UNKNOWN);
            due("thing(" + thing + ", 6)", x.thing(thing, 6), UNKNOWN);
        }
        int[] outside = {-1, 6, MIN, MAX};
        for (int what : outside) {
            due("thing(0, " + what + ")", x.thing(0, what), OUTSIDE);
        }

        lose(x, 2);
        due("self is lost rightly", x.thing(2, 4), 1);
        lose(x, 1);
        due("whose 1", x.thing(1, 2), 1);
        due("lost by 1", x.thing(1, 3), 2);
        due("what is lost behind self is not lost rightly", x.thing(1, 4), 0);
        due("win 1 back", x.play(0, 1, 12, 4), 0);
        due("whose 1", x.thing(1, 2), 0);
        due("lost last by 1", x.thing(1, 3), 2);
        due("that was not rightly", x.thing(1, 4), 0);
        due("went over 1", x.thing(1, 5), 2);
        due("win self back", x.play(0, 2, 12, 4), 0);
        lose(x, 1);
        due("lost last by 1", x.thing(1, 3), 5);
        due("now rightly", x.thing(1, 4), 1);
        due("went over 1", x.thing(1, 5), 3);
        due("went over 0", x.thing(0, 5), 0);

        KingdomAtDice first = inHall("s5,j5;dd");
        lose(first, 0);
        lose(first, 1);
        due("self of number 0, rightly", first.thing(0, 4), 1);
        due("behind it, not rightly", first.thing(1, 4), 0);

        KingdomAtDice selfless = inHall("j9,b5;dd");
        lose(selfless, 0);
        lose(selfless, 1);
        due("without a self all is lost rightly", selfless.thing(1, 4), 1);
    }

    private static void dice() {
        about("promise 7");
        int[][] told = {{0, 2, 12, 36}, {1, 4, 12, 25}, {2, 2, 12, 6}, {3, 2, 6, 9}, {4, 8, 12, 9}};
        for (int kind = 0; kind < 5; kind++) {
            String letter = "dhtlb".substring(kind, kind + 1);
            KingdomAtDice king = inHall("j1,j1;" + letter + "d");
            KingdomAtDice cousin = inHall("j1,j1;d" + letter);
            for (int what = 0; what < 4; what++) {
                due("dice(0, " + what + ") of " + letter, king.dice(0, what), told[kind][what]);
                due("dice(1, " + what + ") of " + letter, cousin.dice(1, what), told[kind][what]);
                due("dice(1, " + what + ") of d", king.dice(1, what), told[0][what]);
            }
        }
        KingdomAtDice x = inHall("j1,j1;dd");
        due("dice(2, 0)", x.dice(2, 0), UNKNOWN);
        due("dice(-1, 9)", x.dice(-1, 9), UNKNOWN);
        due("dice(0, 4)", x.dice(0, 4), OUTSIDE);
        due("dice(1, -1)", x.dice(1, -1), OUTSIDE);
        due("dice(0, 9) without a hall", new KingdomAtDice().dice(0, 9), UNKNOWN);
    }

    private static void as() {
        about("promise 8");
        boolean[][] is = {
            {true, false, false, false, false},
            {true, true, false, false, false},
            {true, false, true, false, false},
            {true, false, false, true, false},
            {true, true, false, false, true},
        };
        for (int kind = 0; kind < 5; kind++) {
            String letter = "dhtlb".substring(kind, kind + 1);
            KingdomAtDice x = inHall("j1,j1;" + letter + letter);
            for (int other = 0; other < 5; other++) {
                due(letter + " as(0, " + other + ")", x.as(0, other), is[kind][other] ? 0 : NONE);
                due(letter + " as(1, " + other + ")", x.as(1, other), is[kind][other] ? 1 : NONE);
            }
            due("as(0, 5)", x.as(0, 5), OUTSIDE);
            due("as(1, -1)", x.as(1, -1), OUTSIDE);
            due("as(2, 0)", x.as(2, 0), UNKNOWN);
            due("as(-1, 5)", x.as(-1, 5), UNKNOWN);
        }
        due("as(1, 9) without a hall", new KingdomAtDice().as(1, 9), UNKNOWN);
    }

    private static void ways() {
        about("promise 9");
        int[][] ways = {
            {1, 2, 3, 4, 5, 6, 5, 4, 3, 2, 1},
            {0, 0, 1, 2, 3, 4, 5, 4, 3, 2, 1},
            {1, 0, 1, 0, 1, 0, 1, 0, 1, 0, 1},
            {1, 2, 3, 2, 1, 0, 0, 0, 0, 0, 0},
            {0, 0, 0, 0, 0, 0, 1, 2, 3, 2, 1},
        };
        for (int kind = 0; kind < 5; kind++) {
            String letter = "dhtlb".substring(kind, kind + 1);
            KingdomAtDice x = inHall("j1,j1;" + letter + "l");
            for (int sum = 2; sum <= 12; sum++) {
                due(letter + " ways(0, " + sum + ")", x.ways(0, sum), ways[kind][sum - 2]);
                due("l ways(1, " + sum + ")", x.ways(1, sum), ways[3][sum - 2]);
            }
            int[] outside = {1, 13, 0, -4, MIN, MAX};
            for (int sum : outside) {
                due(letter + " ways(0, " + sum + ")", x.ways(0, sum), OUTSIDE);
                due(letter + " ways(2, " + sum + ")", x.ways(2, sum), UNKNOWN);
            }
        }
        due("ways(0, 1) without a hall", new KingdomAtDice().ways(0, 1), UNKNOWN);
    }

    private static void play() {
        about("promise 10");
        KingdomAtDice x = inHall("j4,b7,s6;dd");
        due("alike", x.play(0, NONE, 7, 7), NONE);
        due("alike is a throw", x.count(4), 1);
        due("alike: nothing happens", x.count(2), 17);
        due("the king wins gold", x.play(1, NONE, 8, 7), 0);
        due("gold", x.count(3), 7);
        due("the stake stays", x.thing(1, 5), 0);
        due("again", x.play(0, NONE, 12, 2), 0);
        due("gold", x.count(3), 11);
        due("the cousin wins", x.play(0, NONE, 2, 3), 1);
        due("lost", x.thing(0, 2), 1);
        due("gold stays", x.count(3), 11);
        due("lost by the fourth", x.thing(0, 3), 4);
        due("alike for a thing", x.play(1, 0, 5, 5), NONE);
        due("yet the cousin's", x.thing(0, 2), 1);
        due("won back", x.play(1, 0, 6, 5), 0);
        due("the king's", x.thing(0, 2), 0);
        due("no gold for it", x.count(3), 11);
        due("lost for a thing", x.play(2, NONE, 2, 12), 1);
        due("self is matched by what is of more worth", x.play(1, 2, 2, 12), 1);
        due("b7 was lost behind self", x.thing(1, 4), 0);
        due("j4 is of less worth", x.play(0, 1, 12, 2), STATE);
        due("like worth is enough", sameWorth(), 0);
    }

    private static int sameWorth() {
        KingdomAtDice x = inHall("j4,b4;dd");
        lose(x, 0);
        return x.play(1, 0, 12, 2);
    }

    private static void playRefusals() {
        KingdomAtDice x = inHall("j4,b7,s6;lb");
        long before = x.digest();
        due("play(3, ..)", x.play(3, NONE, 1, 1), UNKNOWN);
        due("play(-1, ..)", x.play(-1, NONE, 4, 8), UNKNOWN);
        due("play(0, 3, ..)", x.play(0, 3, 1, 1), UNKNOWN);
        due("play(0, -2, ..)", x.play(0, -2, 4, 8), UNKNOWN);
        due("play(MIN, MAX, ..)", x.play(MIN, MAX, 4, 8), UNKNOWN);
        due("light ones make no 7", x.play(0, NONE, 7, 8), OUTSIDE);
        due("bone ones make no 7", x.play(0, NONE, 6, 7), OUTSIDE);
        due("no sum 1", x.play(0, NONE, 1, 8), OUTSIDE);
        due("no sum 13", x.play(0, NONE, 4, 13), OUTSIDE);
        due("no sum MIN", x.play(0, NONE, MIN, 8), OUTSIDE);
        due("no sum MAX", x.play(0, NONE, 4, MAX), OUTSIDE);
        due("the prize is the king's, but the sum is none", x.play(0, 1, 7, 8), OUTSIDE);
        due("the prize is the king's", x.play(0, 1, 4, 8), STATE);
        due("the prize is the stake", x.play(0, 0, 4, 8), STATE);
        due("refusals change nothing", x.digest(), before);
        due("twins make no 7", inHall("j1,j1;tt").play(0, NONE, 7, 8), OUTSIDE);
        due("twins make no 3", inHall("j1,j1;tt").play(0, NONE, 8, 3), OUTSIDE);
        due("heavy ones make no 3", inHall("j1,j1;hh").play(0, NONE, 3, 8), OUTSIDE);

        KingdomAtDice full = inHall("j4,b7,s6;dd");
        lose(full, 0);
        for (int i = 1; i < 30; i++) {
            due("throw " + (i + 1), full.play(1, NONE, 7, 7), NONE);
        }
        before = full.digest();
        due("there were 30", full.play(1, NONE, 7, 7), FULL);
        due("there were 30, but the stake is lost", full.play(0, NONE, 7, 7), STATE);
        due("there were 30, but the sum is none", full.play(1, NONE, 7, 13), OUTSIDE);
        due("there were 30, but the stake is none", full.play(6, NONE, 7, 7), UNKNOWN);
        due("refusals change nothing", full.digest(), before);
    }

    private static void oddsOf(String kinds, int... parts) {
        KingdomAtDice x = inHall("j1,j1;" + kinds);
        for (int what = 0; what < 6; what++) {
            due(kinds + " odds(" + what + ")", x.odds(what), parts[what]);
        }
    }

    private static void odds() {
        about("promise 11");
        oddsOf("tt", 5, 12, 5, 12, 1, 6);
        oddsOf("ll", 31, 81, 31, 81, 19, 81);
        oddsOf("bb", 31, 81, 31, 81, 19, 81);
        oddsOf("lb", 0, 1, 1, 1, 0, 1);
        oddsOf("bl", 1, 1, 0, 1, 0, 1);
        oddsOf("dd", 575, 1296, 575, 1296, 73, 648);
        // Light ones by twins: 2, 4 and 6 are alike in 1, 3 and 1 of 9; 2 is below in 8, 4 in 3, 6 in 0.
        oddsOf("lt", 11, 54, 19, 27, 5, 54);
        KingdomAtDice x = inHall("j1,j1;dd");
        due("odds(6)", x.odds(6), OUTSIDE);
        due("odds(-1)", x.odds(-1), OUTSIDE);
        due("odds(MIN)", x.odds(MIN), OUTSIDE);
        due("odds(6) without a hall", new KingdomAtDice().odds(6), OUTSIDE);
        due("odds(5) without a hall", new KingdomAtDice().odds(5), STATE);
    }

    private static void backIs(KingdomAtDice x, int thing, int throwMany, long above, long below) {
        due("back(" + thing + ", " + throwMany + ", 0)", x.back(thing, throwMany, 0), above);
        due("back(" + thing + ", " + throwMany + ", 1)", x.back(thing, throwMany, 1), below);
    }

    private static void back() {
        about("promise 12");
        KingdomAtDice x = inHall("j5,j3,b4,b4;tt");
        due("it is the king's", x.back(2, 1, 0), STATE);
        lose(x, 2);
        // Stakes for it: j5 and b4.
        backIs(x, 2, 1, 5, 12);
        backIs(x, 2, 2, 95, 144);
        lose(x, 3);
        // The only stake for it: j5.
        backIs(x, 2, 1, 5, 12);
        backIs(x, 2, 2, 35, 72);
        backIs(x, 2, 3, 215, 432);
        lose(x, 0);
        backIs(x, 0, 1, 0, 1);
        backIs(x, 2, 5, 0, 1);
        long before = x.digest();
        due("back(4, 0, 2)", x.back(4, 0, 2), UNKNOWN);
        due("back(-1, 1, 0)", x.back(-1, 1, 0), UNKNOWN);
        due("back(0, 0, 0)", x.back(0, 0, 0), OUTSIDE);
        due("back(0, 6, 0)", x.back(0, 6, 0), OUTSIDE);
        due("back(0, 1, 2)", x.back(0, 1, 2), OUTSIDE);
        due("back(0, 1, -1)", x.back(0, 1, -1), OUTSIDE);
        due("back(1, 6, 0) of the king's", x.back(1, 6, 0), OUTSIDE);
        due("back(1, 5, 0) of the king's", x.back(1, 5, 0), STATE);
        due("nothing is changed", x.digest(), before);

        KingdomAtDice many = inHall("j1,j2,j3,j4,j5,j6;dd");
        lose(many, 0);
        backIs(many, 0, 5, 3461319246395375L, 3656158440062976L);
    }

    private static void lawIs(KingdomAtDice x, int law, int bits, int worth) {
        due("laws(" + law + ", 0)", x.laws(law, 0), bits);
        due("laws(" + law + ", 1)", x.laws(law, 1), worth);
    }

    private static void laws() {
        about("promise 13");
        KingdomAtDice x = inHall("j1,b2,s3,j4,b5,j6;dd");
        for (int law = 0; law < 4; law++) {
            lawIs(x, law, 63, 21);
        }
        lose(x, 0);
        lose(x, 1);
        lose(x, 2);
        lose(x, 3);
        lose(x, 4);
        lawIs(x, 0, 32, 6);
        lawIs(x, 1, 32 + 8 + 16, 15);
        lawIs(x, 2, 32 + 2 + 16, 13);
        lawIs(x, 3, 32 + 8 + 16 + 2, 17);
        due("laws(4, 0)", x.laws(4, 0), OUTSIDE);
        due("laws(-1, 0)", x.laws(-1, 0), OUTSIDE);
        due("laws(0, 2)", x.laws(0, 2), OUTSIDE);
        due("laws(0, -1)", x.laws(0, -1), OUTSIDE);
        due("laws(4, 0) without a hall", new KingdomAtDice().laws(4, 0), OUTSIDE);
        due("laws(3, 1) without a hall", new KingdomAtDice().laws(3, 1), STATE);
    }

    private static void see() {
        about("promise 14");
        KingdomAtDice x = new KingdomAtDice();
        int[] outside = {1, 13, 0, -2, MIN, MAX};
        for (int sum : outside) {
            due("see(" + sum + ")", x.see(sum), OUTSIDE);
        }
        due("see(2)", x.see(2), 1);
        due("see(12)", x.see(12), 2);
        for (int many = 3; many <= 8; many++) {
            due("see(7)", x.see(7), many);
        }
        due("see(7) above 8", x.see(7), FULL);
        due("see(13) above 8", x.see(13), OUTSIDE);
        due("count(6)", x.count(6), 8);
    }

    private static void forget() {
        about("promise 15");
        KingdomAtDice x = new KingdomAtDice();
        x.see(3);
        x.see(4);
        due("forget()", x.forget(), 2);
        due("forget()", x.forget(), 0);
        due("which()", x.which(), 31);
        due("count(6)", x.count(6), 0);
        due("see(8)", x.see(8), 1);
    }

    private static void which() {
        about("promise 16");
        due("which() of none", seen().which(), 31);
        due("which() of 2", seen(2).which(), 1 + 4 + 8);
        due("which() of 4", seen(4).which(), 1 + 2 + 4 + 8);
        due("which() of 7", seen(7).which(), 1 + 2);
        due("which() of 8", seen(8).which(), 1 + 2 + 4 + 16);
        due("which() of 9", seen(9).which(), 1 + 2 + 16);
        due("which() of 4, 9", seen(4, 9).which(), 1 + 2);
        due("which() of 2, 7", seen(2, 7).which(), 1);
        due("which() of 2, 12", seen(2, 12).which(), 1 + 4);
    }

    private static void likely() {
        about("promise 17");
        due("likely() of none", seen().likely(), 0);
        due("likely() of 7: 6 of 36, 4 of 25", seen(7).likely(), 0);
        due("likely() of 8: 5 of 25", seen(8).likely(), 1);
        due("likely() of 12: 1 of 6", seen(12).likely(), 2);
        due("likely() of 3: 2 of 9", seen(3).likely(), 3);
        due("likely() of 9: 2 of 9", seen(9).likely(), 4);
        due("likely() of 10: 3 of 9", seen(10).likely(), 4);
        due("likely() of 2: 1 of 6", seen(2).likely(), 2);
        due("likely() of 2, 3", seen(2, 3).likely(), 3);
        due("likely() of 2, 7", seen(2, 7).likely(), 0);
        // Always some kind is left, for dice of the kind 0 make every sum.
        due("likely() of many", seen(2, 3, 4, 5, 9, 10, 11, 12).likely(), 0);
        due("likely() of eight 8", seen(8, 8, 8, 8, 8, 8, 8, 8).likely(), 1);
        due("likely() of eight 7", seen(7, 7, 7, 7, 7, 7, 7, 7).likely(), 0);
    }

    /** Answers that a few lines of another language gave. */
    private static void hallsAre(String kinds, int throwMany, int seed, int things, int gold, int then) {
        KingdomAtDice x = inHall("j4,b7,s2,j9,j1,b3;" + kinds);
        String call = kinds + " halls(" + throwMany + ", " + seed + ", ";
        due(call + "0)", x.halls(throwMany, seed, 0), things);
        due(call + "1)", x.halls(throwMany, seed, 1), gold);
        due(call + "2)", x.halls(throwMany, seed, 2), then);
    }

    private static void halls() {
        about("promise 18");
        KingdomAtDice x = inHall("j4,b7;lb");
        // The king always loses: both things are gone by two throws of four draws each.
        long seed = 77;
        for (int i = 0; i < 8; i++) {
            seed = (1103515245L * seed + 12345L) % 2147483648L;
        }
        due("one is left", x.halls(1, 77, 0), 1);
        due("none is left", x.halls(2, 77, 0), 0);
        due("no gold", x.halls(60, 77, 1), 0);
        due("no more is thrown", x.halls(60, 77, 2), seed);
        due("nothing is changed", x.count(1), 2);

        KingdomAtDice rich = inHall("j4,b7;bl");
        rich.play(1, NONE, 12, 2);
        due("gold of before and the first one's", rich.halls(60, 5, 1), 7 + 60 * 4);
        due("all are left", rich.halls(60, 5, 0), 2);

        hallsAre("dd", 7, 3, 2, 15, 1689338439);
        hallsAre("hd", 7, 3, 4, 10, 1689338439);
        hallsAre("tt", 7, 3, 5, 22, 1092185389);
        hallsAre("td", 9, 2026, 0, 13, 2109021689);
        hallsAre("dt", 7, 3, 3, 15, 467868636);
        hallsAre("ll", 9, 2026, 1, 8, 175688214);
        hallsAre("hb", 9, 2026, 0, 3, 483774782);
        KingdomAtDice wronged = inHall("j4,s2,b7;dd");
        lose(wronged, 1);
        lose(wronged, 0);
        due("what only a law would give is not staked", wronged.halls(4, 11, 1), 14);

        KingdomAtDice twins = inHall("j4,b7;tl");
        // From 0 the seeds are 12345, 1406932606, 654583775: draws 0 of 6, 0 and 1 of 3: 2 by 3.
        due("twins by one draw, light ones by two", twins.halls(1, 0, 2), 654583775);
        due("the first one is lost", twins.halls(1, 0, 0), 1);
        due("the greatest seed", twins.halls(1, MAX, 0) >= 0 ? 1 : 0, 1);
        due("halls(0, 0, 0)", x.halls(0, 0, 0), OUTSIDE);
        due("halls(61, 0, 0)", x.halls(61, 0, 0), OUTSIDE);
        due("halls(1, -1, 0)", x.halls(1, -1, 0), OUTSIDE);
        due("halls(1, MIN, 0)", x.halls(1, MIN, 0), OUTSIDE);
        due("halls(1, 0, 3)", x.halls(1, 0, 3), OUTSIDE);
        due("halls(1, 0, -1)", x.halls(1, 0, -1), OUTSIDE);
        due("halls(61, 0, 0) without a hall", new KingdomAtDice().halls(61, 0, 0), OUTSIDE);
        due("halls(60, 0, 2) without a hall", new KingdomAtDice().halls(60, 0, 2), STATE);
    }

    private static void image() {
        about("promise 19");
        due("image() without a hall", new KingdomAtDice().image(), STATE);
        KingdomAtDice x = inHall("j4,b7;dd");
        due("image()", x.image(), 0);
        lose(x, 0);
        due("image()", x.image(), 1);
        lose(x, 1);
        due("the latest one", x.restore(), 1);
        due("count(1)", x.count(1), 1);
    }

    private static void restore() {
        about("promise 20");
        KingdomAtDice x = inHall("j4,b7,s2;dd");
        due("none was kept", x.restore(), STATE);
        lose(x, 0);
        x.play(1, NONE, 12, 2);
        x.see(5);
        x.image();
        long kept = x.digest();
        x.play(1, 0, 12, 2);
        x.play(1, NONE, 12, 2);
        lose(x, 2);
        x.forget();
        x.see(9);
        x.see(9);
        due("restore()", x.restore(), 2);
        due("digest()", x.digest(), kept);
        due("which()", x.which(), seen(5).which());
        lose(x, 1);
        due("restore() again", x.restore(), 2);
        due("digest()", x.digest(), kept);
        x.letter('j');
        due("restore()", x.restore(), 2);
        due("the page is not of the image", x.blank(), 1);
        write(x, "j4,b7,s2;dd");
        due("hall()", x.hall(), 3);
        due("another hall since, even of the same text", x.restore(), STATE);
        due("image()", x.image(), 0);
        due("restore()", x.restore(), 0);
    }

    private static void count() {
        about("promise 21");
        KingdomAtDice x = inHall("j4,b7,s2,b9;dd");
        x.play(3, NONE, 12, 2);
        lose(x, 0);
        lose(x, 2);
        lose(x, 1);
        x.see(5);
        x.see(6);
        write(x, "j1,");
        int[] told = {4, 1, 9, 9, 4, 1, 2, 3, 1};
        for (int what = 0; what <= 8; what++) {
            due("count(" + what + ")", x.count(what), told[what]);
        }
        KingdomAtDice wronged = inHall("j4,s2;dd");
        lose(wronged, 1);
        lose(wronged, 0);
        due("one of number 0 was not lost rightly", wronged.count(5), 1);
        x.play(3, 1, 12, 2);
        due("what is won back is not counted", x.count(5), 0);
        int[] outside = {-1, 9, MIN, MAX};
        for (int what : outside) {
            due("count(" + what + ")", x.count(what), OUTSIDE);
        }
    }

    private static long digestByCalls(KingdomAtDice x, String page) {
        long h = 983;
        for (int thing = 0; thing < x.count(0); thing++) {
            for (int what = 0; what <= 5; what++) {
                h = 31 * h + x.thing(thing, what);
            }
            if (x.thing(thing, 2) == 1) {
                h = 31 * h + x.back(thing, 3, 0);
                h = 31 * h + x.back(thing, 3, 1);
            }
        }
        if (x.count(0) > 0) {
            for (int i = 0; i < 8; i++) {
                h = 31 * h + x.dice(i / 4, i % 4);
            }
            for (int what = 0; what <= 5; what++) {
                h = 31 * h + x.odds(what);
            }
            for (int i = 0; i < 8; i++) {
                h = 31 * h + x.laws(i / 2, i % 2);
            }
        }
        h = 31 * h + x.which();
        h = 31 * h + x.likely();
        for (int i = 0; i < page.length(); i++) {
            h = 31 * h + page.charAt(i);
        }
        for (int what = 0; what <= 8; what++) {
            h = 31 * h + x.count(what);
        }
        return h;
    }

    private static void digest() {
        about("promise 22");
        // (983 times 31 and 31) times 31, then nine zeros.
        long fresh = (983L * 31 + 31) * 31;
        for (int i = 0; i < 9; i++) {
            fresh *= 31;
        }
        due("digest() of a new one", new KingdomAtDice().digest(), fresh);
        KingdomAtDice x = page("j1,~");
        x.see(4);
        due("digest() without a hall", x.digest(), digestByCalls(x, "j1,~"));
        KingdomAtDice y = inHall("j4,b7,s2,b9;dd");
        due("digest() of a hall", y.digest(), digestByCalls(y, ""));
        lose(y, 2);
        lose(y, 0);
        y.see(9);
        write(y, "b1");
        due("digest() of losses", y.digest(), digestByCalls(y, "b1"));
        due("digest() changes nothing", y.digest(), digestByCalls(y, "b1"));
    }
}
