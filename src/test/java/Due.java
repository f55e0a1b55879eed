/** Collects answers that are not the ones that are due. */
final class Due {
    private int asked = 0;
    private int wrong = 0;

    void is(String what, int want, int got) {
        asked++;
        if (want != got) {
            wrong++;
            System.out.println(what + ": due is " + want + ", answered " + got);
        }
    }

    void holds(String what, boolean so) {
        is(what, 1, so ? 1 : 0);
    }

    /** Asks taxi(plate, 0), taxi(plate, 1) .. in turn. */
    void taxi(TaxiRank rank, int plate, int... wants) {
        for (int what = 0; what < wants.length; what++) {
            is("taxi(" + plate + ", " + what + ")", wants[what], rank.taxi(plate, what));
        }
    }

    /** The plates in the line are these, and no more. */
    void line(TaxiRank rank, int... plates) {
        for (int place = 0; place < plates.length; place++) {
            is("line(" + place + ")", plates[place], rank.line(place));
            is("taxi(" + plates[place] + ", 1)", place, rank.taxi(plates[place], 1));
        }
        is("line behind the last", TaxiRank.NONE, rank.line(plates.length));
        is("count(3)", plates.length, rank.count(3));
    }

    static TaxiRank withTaxis(int... plates) {
        TaxiRank rank = new TaxiRank();
        for (int plate : plates) {
            rank.come(plate);
        }
        return rank;
    }

    static void retype(TaxiRank rank, String text) {
        rank.clearText();
        for (char character : text.toCharArray()) {
            rank.type(character);
        }
    }

    static void passTo(TaxiRank rank, int clock) {
        int left = clock - rank.count(0);
        for (; left > 999; left -= 999) {
            rank.pass(999);
        }
        if (left > 0) {
            rank.pass(left);
        }
    }

    void end() {
        System.out.println((asked - wrong) + " of " + asked + " answers are as due");
        if (wrong != 0) {
            System.exit(1);
        }
    }
}
