/** The edges that are told of lines taken out and of lines seen through the gaps: promises 8, 9 and 24. */
public final class LinesOutTest {
    private static final Due DUE = new Due("LinesOutTest");
    private static final int RAW = AsteroTone.RAW;
    private static final int MEAN = AsteroTone.MEAN;
    private static final int DRIFT = AsteroTone.DRIFT;

    public static void main(String[] args) {
        linesFrom1To31();
        atMostSix();
        putsAllBack();
        oneBehindTheOther();
        ofTheValuesAsTheyAreByThen();
        eachTwiceThenDivided();
        firstDivisionCutToward0();
        togetherDividedBy1000();
        secondDivisionCutToward0();
        byHowManyFramesThereAre();
        foundAnewWithEachFrame();
        ofTheFilteredValues();
        ofOneStarAlone();
        throughIfThatIsGreater();
        throughAtLeastTheSquare();
        throughOfOneFrame();
        throughBySeveralSites();
        throughWithLinesTakenOut();
        DUE.close();
    }

    private static AsteroTone square(int a, int b, int c, int d) {
        AsteroTone x = Scene.one();
        Scene.light(x, 0, a, b, c, d);
        return x;
    }

    private static void values(String what, AsteroTone x, int a, int b, int c, int d) {
        DUE.is(what + ", time 0", a, x.value(0, RAW, 0));
        DUE.is(what + ", time 16", b, x.value(0, RAW, 16));
        DUE.is(what + ", time 32", c, x.value(0, RAW, 32));
        DUE.is(what + ", time 48", d, x.value(0, RAW, 48));
    }

    private static void linesFrom1To31() {
        AsteroTone x = square(9, 4, 1, 8);
        for (int wrong : new int[] {Integer.MIN_VALUE, -1, 0, 32, Integer.MAX_VALUE}) {
            DUE.argument("promise 8: line " + wrong, () -> x.takeOut(0, wrong));
        }
        values("promise 8: nothing is taken out", x, 9, 4, 1, 8);
        DUE.is("promise 8: line 1", 1, x.takeOut(0, 1));
        values("promise 8: line 1, 4 and -2", x, 5, 6, 5, 6);
        x.putBack(0);
        DUE.is("promise 8: line 31", 1, x.takeOut(0, 31));
        values("promise 8: line 31, 4 and 2 turned round", x, 5, 6, 5, 6);
    }

    private static void atMostSix() {
        AsteroTone x = square(9, 4, 1, 8);
        for (int many = 1; many <= 6; many++) {
            DUE.is("promise 8: line " + many, many, x.takeOut(0, many == 6 ? 1 : 31));
        }
        int kept = x.value(0, RAW, 0);
        DUE.state("promise 8: a seventh", () -> x.takeOut(0, 1));
        DUE.state("promise 8: a seventh again", () -> x.takeOut(0, 31));
        DUE.argument("promise 8: a seventh of the line 32", () -> x.takeOut(0, 32));
        DUE.index("promise 8: of no star, and no line", () -> x.takeOut(1, 0));
        DUE.is("promise 20: six are taken out, as before", kept, x.value(0, RAW, 0));
        DUE.is("promise 9: six", 6, x.putBack(0));
        DUE.is("promise 8: room again", 1, x.takeOut(0, 1));
    }

    private static void putsAllBack() {
        AsteroTone x = square(9, 4, 1, 8);
        DUE.is("promise 9: none", 0, x.putBack(0));
        x.takeOut(0, 1);
        DUE.is("promise 9: one", 1, x.putBack(0));
        values("promise 9: as they were", x, 9, 4, 1, 8);
        DUE.is("promise 9: none since then", 0, x.putBack(0));
        x.takeOut(0, 1);
        x.takeOut(0, 31);
        DUE.is("promise 9: both", 2, x.putBack(0));
        values("promise 9: as they were once more", x, 9, 4, 1, 8);
    }

    /** Line 4 takes twice the mean of all, 11; line 2 takes twice the mean of a - b + c - d. */
    private static void oneBehindTheOther() {
        AsteroTone x = square(9, 4, 1, 8);
        x.takeOut(0, 4);
        values("promise 8: line 4", x, -2, -7, -10, -3);
        x.takeOut(0, 4);
        values("promise 8: line 4 again, -11", x, 9, 4, 1, 8);
        x.takeOut(0, 2);
        values("promise 8: line 2, -1 of -2 twice by 4", x, 10, 3, 2, 7);
    }

    /** What the first line leaves, rounded as it is, is what the second one is found from. */
    private static void ofTheValuesAsTheyAreByThen() {
        AsteroTone one = square(5, 0, 0, 0);
        one.takeOut(0, 1);
        values("promise 8: twice 5 by 4 is 2", one, 3, 0, 2, 0);
        one.takeOut(0, 2);
        values("promise 8: then twice 5 by 4 again", one, 1, 2, 0, 2);
        AsteroTone other = square(6, 0, 1, 0);
        other.takeOut(0, 2);
        values("promise 8: twice 7 by 4 is 3", other, 3, 3, -2, 3);
        other.takeOut(0, 1);
        values("promise 8: then twice 5 by 4", other, 1, 3, 0, 3);
        AsteroTone twin = square(9, 4, 1, 8);
        twin.takeOut(0, 1);
        twin.takeOut(0, 31);
        values("promise 8: line 31 has nothing left behind line 1", twin, 5, 6, 5, 6);
        AsteroTone back = square(6, 0, 1, 0);
        back.takeOut(0, 1);
        values("promise 8: twice 5 by 4 is 2", back, 4, 0, 3, 0);
        back.takeOut(0, 4);
        values("promise 8: then twice 7 by 4 is 3", back, 1, -3, 0, -3);
    }

    private static void eachTwiceThenDivided() {
        AsteroTone x = square(2, 2, 0, 0);
        x.takeOut(0, 1);
        values("promise 8: 2 twice is 4, and 4 by 4", x, 1, 1, 1, 1);
        AsteroTone odd = square(3, 3, 0, 0);
        odd.takeOut(0, 1);
        values("promise 8: 3 twice is 6, and 6 by 4 is 1", odd, 2, 2, 1, 1);
        AsteroTone little = square(1, 1, 0, 0);
        little.takeOut(0, 1);
        values("promise 8: 1 twice is 2, and 2 by 4 is 0", little, 1, 1, 0, 0);
        AsteroTone table = Scene.seen(1, 1000, 64, 5);
        table.takeOut(0, 1);
        // The sums are 1000000 and 98000: not divided by 1000, twice, by 2000 they are 1000 and 98.
        DUE.is("promise 8: less 1000 by the cosine of 0", 5 - 1000, table.value(0, RAW, 64));
        DUE.is("promise 8: less 995000 and 9604, by 1000", 1000 - 1004, table.value(0, RAW, 1));
        AsteroTone ahead = Scene.seen(5, 10);
        ahead.takeOut(0, 1);
        // 8820 and 4710 twice by 1000 are 17 and 9; divided by 1000 ahead they would be 16 and 8.
        DUE.is("promise 8: less 14994 and 4239, by 1000", 10 - 19, ahead.value(0, RAW, 5));
        AsteroTone told = Scene.seen(0, 999, 8, 1);
        told.takeOut(0, 1);
        // 999707 twice by 2000 is 999; 707 twice by 2000 is 0.
        DUE.is("promise 8: less 999", 0, told.value(0, RAW, 0));
        DUE.is("promise 8: less 999 times 707 by 1000", 1 - 706, told.value(0, RAW, 8));
    }

    private static void firstDivisionCutToward0() {
        AsteroTone cosine = square(0, 0, 3, 0);
        cosine.takeOut(0, 1);
        values("promise 8: -6 by 4 is -1", cosine, 1, 0, 2, 0);
        AsteroTone below = Scene.seen(27, 10);
        below.takeOut(0, 1);
        // -8820 and 4710 twice by 1000 are -17 and 9; rounded down they would be -18 and 9.
        DUE.is("promise 8: less 14994 and 4239, of -882 and 471", 10 - 19, below.value(0, RAW, 27));
        AsteroTone sine = square(0, 0, 0, 3);
        sine.takeOut(0, 1);
        values("promise 8: -6 by 4 is -1, by the sine", sine, 0, 1, 0, 2);
        AsteroTone none = square(0, 0, 1, 1);
        none.takeOut(0, 1);
        values("promise 8: -2 by 4 is 0, of both", none, 0, 0, 1, 1);
        AsteroTone just = square(0, 0, 2, 2);
        just.takeOut(0, 1);
        values("promise 8: -4 by 4 is -1, of both", just, 1, 1, 1, 1);
        AsteroTone least = Scene.seen(32, 1, 16, 0);
        least.takeOut(0, 1);
        DUE.is("promise 8: -2000 by 2000 is -1", 0, least.value(0, RAW, 32));
        AsteroTone less = Scene.seen(31, 1, 15, 0);
        less.takeOut(0, 1);
        // -995 and 98 twice by 2000 are both 0.
        DUE.is("promise 8: -1990 by 2000 is 0", 1, less.value(0, RAW, 31));
        DUE.is("promise 8: and so nothing is taken out", 0, less.value(0, RAW, 15));
    }

    /** 96 and 29 by 957 and 290: 91872 and 8410 are 100282 together, but 91 and 8 each by itself. */
    private static void togetherDividedBy1000() {
        AsteroTone x = Scene.seen(0, 0, 3, 101);
        x.takeOut(0, 1);
        DUE.is("promise 8: less 96", -96, x.value(0, RAW, 0));
        DUE.is("promise 8: less 100", 1, x.value(0, RAW, 3));
    }

    /** 100 times -882 is -88200, by 1000 -88; rounded down it would be -89. */
    private static void secondDivisionCutToward0() {
        AsteroTone x = Scene.seen(0, 100, 27, 0);
        x.takeOut(0, 1);
        DUE.is("promise 8: less 100", 0, x.value(0, RAW, 0));
        DUE.is("promise 8: less -88", 88, x.value(0, RAW, 27));
        AsteroTone little = Scene.seen(0, 1, 31, 0);
        little.takeOut(0, 1);
        DUE.is("promise 8: less 1", 0, little.value(0, RAW, 0));
        DUE.is("promise 8: -995 by 1000 is 0", 0, little.value(0, RAW, 31));
        AsteroTone up = Scene.seen(0, 100, 5, 0);
        up.takeOut(0, 1);
        DUE.is("promise 8: less 88", -88, up.value(0, RAW, 5));
        AsteroTone sine = Scene.seen(16, 100, 43, 0);
        sine.takeOut(0, 1);
        DUE.is("promise 8: less -88 by the sine", 88, sine.value(0, RAW, 43));
    }

    private static void byHowManyFramesThereAre() {
        AsteroTone x = Scene.seen(0, 100);
        x.takeOut(0, 1);
        DUE.is("promise 8: one frame, less 200", -100, x.value(0, RAW, 0));
        x.frame(0, 0, 16, 0);
        DUE.is("promise 8: two frames, less 100", 0, x.value(0, RAW, 0));
        x.frame(0, 1, 48, 0);
        DUE.is("promise 8: three frames, less 66", 34, x.value(0, RAW, 0));
        x.frame(0, 2, 80, 0);
        DUE.is("promise 8: four frames, less 50", 50, x.value(0, RAW, 0));
        x.mask(1, true);
        DUE.is("promise 8: one of them left out", 34, x.value(0, RAW, 0));
        AsteroTone none = Scene.one();
        DUE.is("promise 8: no frame", 1, none.takeOut(0, 1));
        DUE.is("promise 8: nothing to divide by", 0, none.value(0, RAW, 0));
        DUE.is("promise 8: nothing to sum up", 0, none.power(0, RAW, 1));
        AsteroTone all = Scene.one();
        for (int time = 0; time < 256; time++) {
            all.frame(0, 0, time, time % 64 == 0 ? 9999 : 0);
        }
        all.takeOut(0, 1);
        // Four times 9999 twice by 256 is 312.
        DUE.is("promise 8: all frames, less 312", 9999 - 312, all.value(0, RAW, 128));
        DUE.is("promise 8: all frames, less -310", 310, all.value(0, RAW, 33));
    }

    private static void foundAnewWithEachFrame() {
        AsteroTone x = Scene.one();
        x.takeOut(0, 1);
        x.takeOut(0, 4);
        Scene.light(x, 0, 9, 4, 1, 8);
        AsteroTone y = square(9, 4, 1, 8);
        y.takeOut(0, 1);
        y.takeOut(0, 4);
        for (int time = 0; time < 64; time += 16) {
            DUE.is("promise 8: taken out before it was told", y.value(0, RAW, time), x.value(0, RAW, time));
        }
        values("promise 8: 5, 6, 5 and 6 less 11", x, -6, -5, -6, -5);
    }

    private static void ofTheFilteredValues() {
        AsteroTone x = square(9, 4, 1, 8);
        x.takeOut(0, 4);
        DUE.is("promise 20: raw, 9 less 11", -2, x.value(0, RAW, 0));
        DUE.is("promise 20: 4 less 1", 3, x.value(0, MEAN, 0));
        // 9, 8, 8 and 8 are less by the drift: 0, -4, -7 and 0 are left, twice -11 by 4 is -5.
        DUE.is("promise 20: 0 less -5", 5, x.value(0, DRIFT, 0));
        DUE.is("promise 20: -7 less -5", -2, x.value(0, DRIFT, 32));
    }

    private static void ofOneStarAlone() {
        AsteroTone x = square(9, 4, 1, 8);
        Scene.star(x, 1, 1, 1, 1);
        Scene.light(x, 1, 9, 4, 1, 8);
        DUE.is("promise 8: of the second star", 1, x.takeOut(1, 4));
        DUE.is("promise 20: the first one as it was", 9, x.value(0, RAW, 0));
        DUE.is("promise 20: the second one", -2, x.value(1, RAW, 0));
        DUE.is("promise 9: none of the first star", 0, x.putBack(0));
        DUE.is("promise 9: one of the second star", 1, x.putBack(1));
    }

    private static void throughIfThatIsGreater() {
        AsteroTone same = square(9, 4, 1, 8);
        DUE.is("promise 21: 80 at line 1", 80, same.power(0, RAW, 1));
        DUE.is("promise 21: 80 at line 5", 80, same.power(0, RAW, 5));
        DUE.is("promise 22: 16 at their difference", 16, same.window(0, 4));
        DUE.is("promise 24: just as great", false, same.isSeenThrough(0, RAW, 1, 5));
        DUE.is("promise 24: just as great, the other way", false, same.isSeenThrough(0, RAW, 5, 1));
        AsteroTone x = Scene.seen(0, 2, 1, 2);
        DUE.is("promise 21: 10 at line 6", 10, x.power(0, RAW, 6));
        DUE.is("promise 21: 9 at line 5", 9, x.power(0, RAW, 5));
        DUE.is("promise 24: 1 more", true, x.isSeenThrough(0, RAW, 5, 6));
        DUE.is("promise 24: 1 less", false, x.isSeenThrough(0, RAW, 6, 5));
    }

    /** "4 times the window's power at the difference of both is at least the square of how many frames there are". */
    private static void throughAtLeastTheSquare() {
        AsteroTone two = Scene.seen(0, 5000, 1, 4000);
        DUE.is("promise 22: 1 of two frames", 1, two.window(0, 1));
        DUE.is("promise 24: 4 times 1 is 4", true, two.isSeenThrough(0, RAW, 1, 0));
        DUE.is("promise 24: 4 times 1 is 4, further on", true, two.isSeenThrough(0, RAW, 31, 30));
        DUE.is("promise 22: 0 of two frames", 0, two.window(0, 31));
        DUE.is("promise 24: 4 times 0", false, two.isSeenThrough(0, RAW, 31, 0));
        DUE.is("promise 22: 1 and 1 of two frames, at the line 16", 2, two.window(0, 16));
        DUE.is("promise 22: 0 of two frames, from the line 22 on", 0, two.window(0, 22));
        DUE.is("promise 24: 20 and 4 are 16 apart, and 24 together", true, two.isSeenThrough(0, RAW, 20, 4));
        DUE.is("promise 24: 4 and 20, as far apart", false, two.isSeenThrough(0, RAW, 4, 20));
        AsteroTone three = Scene.seen(0, 3000, 1, 3000, 2, 3000);
        DUE.is("promise 22: 2 of three frames", 2, three.window(0, 8));
        DUE.is("promise 24: 4 times 2 is 1 less than 9", false, three.isSeenThrough(0, RAW, 8, 0));
        DUE.is("promise 22: 5 of three frames", 5, three.window(0, 4));
        DUE.is("promise 24: 4 times 5 is more than 9", true, three.isSeenThrough(0, RAW, 4, 0));
        AsteroTone six = Scene.seen(0, 1, 64, 1, 128, 1, 192, 1, 1, 9000, 33, 8000);
        DUE.is("promise 22: 4 by 4, the others are half a turn apart", 16, six.window(0, 1));
        DUE.is("promise 24: 64 is more than 36", true, six.isSeenThrough(0, RAW, 1, 0));
        AsteroTone just = Scene.seen(0, 1, 64, 1, 128, 1, 31, 0, 63, 5000, 8, 100);
        DUE.is("promise 22: 3 by 3", 9, just.window(0, 1));
        DUE.is("promise 24: 36 is just 36", true, just.isSeenThrough(0, RAW, 1, 0));
    }

    private static void throughOfOneFrame() {
        AsteroTone x = Scene.seen(1, 9000);
        DUE.is("promise 22: 0 of one frame", 0, x.window(0, 1));
        DUE.is("promise 21: 81000000 at line 0", 81000000, x.power(0, RAW, 0));
        DUE.is("promise 21: less at line 1", 8955L * 8955 + 882 * 882, x.power(0, RAW, 1));
        DUE.is("promise 24: 4 times 0 is less than 1", false, x.isSeenThrough(0, RAW, 1, 0));
    }

    private static void throughBySeveralSites() {
        AsteroTone x = Scene.seen(0, 5000, 1, 4000);
        x.frame(0, 3, 17, 100);
        x.frame(0, 3, 33, 100);
        DUE.is("promise 24: four frames, 4 times less than 4", false, x.isSeenThrough(0, RAW, 1, 0));
        x.mask(3, true);
        DUE.is("promise 24: two frames alone", true, x.isSeenThrough(0, RAW, 1, 0));
        x.mask(0, true);
        DUE.is("promise 24: none", false, x.isSeenThrough(0, RAW, 1, 0));
    }

    /** The powers are those of what is left, the window is as it was. */
    private static void throughWithLinesTakenOut() {
        AsteroTone x = square(2000, 1000, 0, 1000);
        DUE.is("promise 24: line 4 is greater, but nothing 3 away", false, x.isSeenThrough(0, RAW, 1, 4));
        DUE.is("promise 24: line 0 and 4 are the same", false, x.isSeenThrough(0, RAW, 4, 0));
        AsteroTone two = Scene.seen(0, 5000, 1, 4000);
        DUE.is("promise 24: line 0 is greater", true, two.isSeenThrough(0, RAW, 1, 0));
        for (int i = 0; i < 2; i++) {
            two.takeOut(0, 1);
            DUE.is("promise 22: as it was", 1, two.window(0, 1));
        }
        boolean due = two.power(0, RAW, 0) > two.power(0, RAW, 1);
        DUE.is("promise 24: by what is left", due, two.isSeenThrough(0, RAW, 1, 0));
        DUE.is("promise 24: by what is left, the other way", !due, two.isSeenThrough(0, RAW, 0, 1));
    }
}
