/** The edges that "Stars, tones" and the promises 1 to 3 and 16 to 18 name, a method for each sentence. */
public final class StarEdgesTest {
    private static final Due DUE = new Due("StarEdgesTest");

    public static void main(String[] args) {
        aNewObject();
        oneToEightShells();
        rangesOfAShell();
        atMostSixStars();
        agesFrom0To99();
        theNextStarHasNoShells();
        crossingRoundedDown();
        crossingUnitByUnit();
        largeSpacingRoundedDown();
        smallSpacingIfItIsFaster();
        spinRoundedDown();
        whereTheCoreRings();
        ordersDegreesParts();
        halfRoundedDown();
        lessThan500Away();
        upwardIfItIsJustThere();
        halfOfWhatItLacks();
        onlyTheDegree1();
        splitBehindThePush();
        tonesBelow0();
        DUE.close();
    }

    private static AsteroTone of(int... shells) {
        AsteroTone x = new AsteroTone();
        Scene.star(x, 40, shells);
        return x;
    }

    /** "No stars; no site is masked", and "1000 at first". */
    private static void aNewObject() {
        AsteroTone x = new AsteroTone();
        DUE.index("promise 1: no star 0", () -> x.frames(0));
        DUE.index("promise 1: no claim 0", () -> x.isSound(0) ? 1 : 0);
        DUE.state("promise 1: no shell", () -> x.star(0));
        DUE.is("promise 1: nothing to audit", 0, x.audit());
        Scene.star(x, 0, 1, 1, 0);
        for (int site = 0; site < 4; site++) {
            x.frame(0, site, 60 * site, 10);
            DUE.is("promise 1: site " + site + " is not masked", site + 1, x.frames(0));
            DUE.is("promise 1: site " + site + " was not", false, x.mask(site, false));
        }
        DUE.is("promise 1: no line is taken out", 0, x.putBack(0));
        DUE.is("promise 7: 1000 at first", 1000, x.threshold(1000));
    }

    private static void oneToEightShells() {
        DUE.is("promise 3: a star of one shell", 1000, of(1, 1, 0).ofStar(0, 1));
        AsteroTone x = new AsteroTone();
        for (int shell = 1; shell <= 8; shell++) {
            DUE.is("promise 2: shell " + shell, shell, x.shell(shell, 1, 0));
        }
        DUE.state("promise 2: shell 9", () -> x.shell(9, 1, 0));
        DUE.state("promise 2: shell 9 again", () -> x.shell(9, 1, 0));
        DUE.is("promise 3: a star of eight shells", 0, x.star(0));
        DUE.is("promise 3: of all eight, and of no ninth", 36000, x.ofStar(0, 1));
    }

    private static void rangesOfAShell() {
        int[] off = {Integer.MIN_VALUE, -1, 0, 100, Integer.MAX_VALUE};
        AsteroTone x = new AsteroTone();
        for (int wrong : off) {
            DUE.argument("promise 2: thick " + wrong, () -> x.shell(wrong, 50, 5));
            DUE.argument("promise 2: speed " + wrong, () -> x.shell(50, wrong, 5));
        }
        for (int wrong : new int[] {Integer.MIN_VALUE, -1, 10, 99, Integer.MAX_VALUE}) {
            DUE.argument("promise 2: spin " + wrong, () -> x.shell(50, 50, wrong));
        }
        DUE.is("promise 2: thick 1", 1, x.shell(1, 50, 5));
        DUE.is("promise 2: thick 99", 2, x.shell(99, 50, 5));
        DUE.is("promise 2: speed 1", 3, x.shell(50, 1, 5));
        DUE.is("promise 2: speed 99", 4, x.shell(50, 99, 5));
        DUE.is("promise 2: spin 0", 5, x.shell(50, 50, 0));
        DUE.is("promise 2: spin 9", 6, x.shell(50, 50, 9));
        x.star(0);
        DUE.is("promise 2: those six alone", 20 + 1980 + 50000 + 505 + 1000 + 1000, x.ofStar(0, 1));
    }

    private static void atMostSixStars() {
        AsteroTone x = new AsteroTone();
        for (int star = 0; star < 6; star++) {
            DUE.is("promise 3: star " + star, star, Scene.star(x, star, star + 1, 1, 0));
        }
        x.shell(7, 1, 0);
        DUE.state("promise 3: star 6", () -> x.star(6));
        DUE.index("promise 3: there is none", () -> x.frames(6));
        DUE.is("promise 3: the last one is as it was", 6000, x.ofStar(5, 1));
        DUE.is("promise 3: a frame of the last one", -1, x.frame(5, 0, 0, 1));
        DUE.is("promise 3: shells are added even so", 2, x.shell(7, 1, 0));
    }

    private static void agesFrom0To99() {
        AsteroTone x = new AsteroTone();
        x.shell(1, 1, 0);
        for (int wrong : new int[] {Integer.MIN_VALUE, -1, 100, Integer.MAX_VALUE}) {
            DUE.argument("promise 3: age " + wrong, () -> x.star(wrong));
        }
        DUE.is("promise 3: age 0", 0, x.star(0));
        DUE.is("promise 3: age 99", 1, Scene.star(x, 99, 1, 1, 0));
        DUE.is("promise 16: age 0", 0, x.ofStar(0, 0));
        DUE.is("promise 16: age 99", 99, x.ofStar(1, 0));
    }

    private static void theNextStarHasNoShells() {
        AsteroTone x = of(99, 1, 9, 99, 1, 9);
        DUE.state("promise 3: no shell", () -> x.star(0));
        DUE.argument("promise 3: no shell, and the age 100", () -> x.star(100));
        DUE.is("promise 2: its first one", 1, x.shell(1, 99, 0));
        DUE.is("promise 3: a second star", 1, x.star(0));
        DUE.is("promise 16: of its own shell alone", 10, x.ofStar(1, 1));
        DUE.is("promise 16: the first one as it was", 198000, x.ofStar(0, 1));
    }

    /** "divided by the speed, each rounded down". */
    private static void crossingRoundedDown() {
        DUE.is("promise 16: 1000 by 99 is 10.1", 10, of(1, 99, 0).ofStar(0, 1));
        DUE.is("promise 16: 99000 by 99", 1000, of(99, 99, 0).ofStar(0, 1));
        DUE.is("promise 16: 98000 by 99 is 989.9", 989, of(98, 99, 0).ofStar(0, 1));
        DUE.is("promise 16: 666.7, and not 1333.3 of both", 1332, of(2, 3, 0, 2, 3, 0).ofStar(0, 1));
        DUE.is("promise 16: 2000 by 3 three times is 1998", 1998, of(2, 3, 0, 2, 3, 0, 2, 3, 0).ofStar(0, 1));
        DUE.is("promise 16: the slowest star", 8 * 99000, slowest().ofStar(0, 1));
    }

    private static AsteroTone slowest() {
        return of(99, 1, 0, 99, 1, 0, 99, 1, 0, 99, 1, 0, 99, 1, 0, 99, 1, 0, 99, 1, 0, 99, 1, 0);
    }

    /** "what is left over going on to the next unit of the shell", and not of the next shell. */
    private static void crossingUnitByUnit() {
        DUE.is("promise 17: one unit", 10, of(1, 99, 0).crossingAnew(0));
        DUE.is("promise 17: 10 by each unit would be 990", 1000, of(99, 99, 0).crossingAnew(0));
        DUE.is("promise 17: 989.9", 989, of(98, 99, 0).crossingAnew(0));
        DUE.is("promise 17: nothing goes on to the next shell", 1332, of(2, 3, 0, 2, 3, 0).crossingAnew(0));
        DUE.is("promise 17: the slowest star", 8 * 99000, slowest().crossingAnew(0));
        for (int speed = 1; speed <= 99; speed++) {
            AsteroTone x = of(99, speed, 0, 1, speed, 0, 37, 100 - speed, 0);
            DUE.is("promise 17: the same as it is told of the star, speed " + speed, x.ofStar(0, 1), x.crossingAnew(0));
        }
    }

    private static void largeSpacingRoundedDown() {
        DUE.is("promise 16: 10000000 by 10", 1000000, of(1, 99, 0).ofStar(0, 2));
        DUE.is("promise 16: 10000000 by 792000 is 12.6", 12, slowest().ofStar(0, 2));
        DUE.is("promise 16: 10000000 by 1000", 10000, of(99, 99, 0).ofStar(0, 2));
        DUE.is("promise 16: 10000000 by 989 is 10111.2", 10111, of(98, 99, 0).ofStar(0, 2));
    }

    /** "the sum of how much faster each shell is than the next one outward, if it is". */
    private static void smallSpacingIfItIsFaster() {
        DUE.is("promise 16: one shell", 0, of(9, 50, 0).ofStar(0, 3));
        DUE.is("promise 16: as fast", 0, of(9, 50, 0, 9, 50, 0).ofStar(0, 3));
        DUE.is("promise 16: slower by 1", 0, of(9, 50, 0, 9, 51, 0).ofStar(0, 3));
        DUE.is("promise 16: faster by 1", 1, of(9, 50, 0, 9, 49, 0).ofStar(0, 3));
        DUE.is("promise 16: slower ones take nothing off", 1, of(9, 50, 0, 9, 49, 0, 9, 99, 0).ofStar(0, 3));
        AsteroTone most = of(1, 99, 0, 1, 1, 0, 1, 99, 0, 1, 1, 0, 1, 99, 0, 1, 1, 0, 1, 99, 0, 1, 1, 0);
        DUE.is("promise 16: four times 98, the last shell with it", 392, most.ofStar(0, 3));
    }

    private static void spinRoundedDown() {
        DUE.is("promise 16: no spin", 0, of(99, 1, 0).ofStar(0, 4));
        DUE.is("promise 16: the greatest", 9, of(99, 1, 9, 1, 1, 9).ofStar(0, 4));
        DUE.is("promise 16: 891 by 100 is 8.9", 8, of(99, 1, 9, 1, 1, 0).ofStar(0, 4));
        DUE.is("promise 16: 99 by 100", 0, of(99, 1, 1, 1, 1, 0).ofStar(0, 4));
        DUE.is("promise 16: 100 by 100", 1, of(99, 1, 1, 1, 1, 1).ofStar(0, 4));
        DUE.is("promise 16: 9 by 2 is 4.5", 4, of(1, 1, 9, 1, 1, 0).ofStar(0, 4));
    }

    /** "3 times the large spacing, and 100 times the speed of its shell", the innermost one. */
    private static void whereTheCoreRings() {
        DUE.is("promise 16: speed 99", 3 * 1000000 + 9900, of(1, 99, 0).ofStar(0, 5));
        DUE.is("promise 16: speed 1", 3 * 12 + 100, slowest().ofStar(0, 5));
        DUE.is("promise 16: not the outer shell's", 3 * 100 + 200, of(1, 2, 0, 99, 1, 0).ofStar(0, 5));
        for (int wrong : new int[] {Integer.MIN_VALUE, -1, 6, Integer.MAX_VALUE}) {
            DUE.argument("promise 16: what " + wrong, () -> of(1, 1, 0).ofStar(0, wrong));
        }
    }

    /** A large spacing of 80000, a small one of 0 and a spin of 3: parts are 30 apart. */
    private static void ordersDegreesParts() {
        AsteroTone x = of(1, 8, 3);
        for (int order = 1; order <= 12; order++) {
            for (int degree = 0; degree <= 3; degree++) {
                for (int part = -degree; part <= degree; part++) {
                    int due = 40000 * (2 * order + degree + 3) + 30 * part;
                    DUE.is("promise 18: " + order + " " + degree + " " + part, due, x.tone(0, order, degree, part));
                }
                int of = degree;
                int by = order;
                DUE.argument("promise 18: part above " + of, () -> x.tone(0, by, of, of + 1));
                DUE.argument("promise 18: part below -" + of, () -> x.tone(0, by, of, -of - 1));
            }
        }
        for (int wrong : new int[] {Integer.MIN_VALUE, -1, 0, 13, Integer.MAX_VALUE}) {
            DUE.argument("promise 18: order " + wrong, () -> x.tone(0, wrong, 0, 0));
        }
        for (int wrong : new int[] {Integer.MIN_VALUE, -1, 4, Integer.MAX_VALUE}) {
            DUE.argument("promise 18: degree " + wrong, () -> x.tone(0, 1, wrong, 0));
        }
    }

    /** A large spacing of 101: 505 by 2 is 252.5. */
    private static void halfRoundedDown() {
        AsteroTone x = of(99, 1, 0);
        DUE.is("promise 18: 101 times 5 by 2", 252, x.tone(0, 1, 0, 0));
        DUE.is("promise 18: 101 times 6 by 2, far from where it rings", 303 + 101 * 9, x.tone(0, 10, 1, 0));
        DUE.is("promise 18: 101 times 7 by 2", 353, x.tone(0, 1, 2, 0));
        DUE.is("promise 18: 101 times 27 by 2", 1363, x.tone(0, 12, 0, 0));
    }

    /** What a tone lacks to 500 is halved and rounded down, so that 498 is the first one that is seen. */
    private static void lessThan500Away() {
        DUE.is("promise 18: 500 below, 150000 at 150500", 150000, of(1, 5, 0).tone(0, 1, 1, 0));
        DUE.is("promise 18: 499 below, 2404 at 2903", 2404, of(99, 11, 0, 99, 13, 0).tone(0, 2, 1, 0));
        DUE.is("promise 18: 498 below, 5608 at 6106", 5607, of(50, 19, 0, 99, 22, 0).tone(0, 2, 1, 0));
        DUE.is("promise 18: 497 below, 6890 at 7387", 6889, of(5, 22, 0, 50, 9, 0).tone(0, 2, 1, 0));
        DUE.is("promise 18: 497 above, 28388 at 27891", 28389, of(93, 66, 0).tone(0, 2, 1, 0));
        DUE.is("promise 18: 498 above, 2245 at 1747", 2246, of(89, 4, 0).tone(0, 3, 1, 0));
        DUE.is("promise 18: 499 above, 1602 at 1103", 1602, of(1, 5, 0, 99, 2, 0).tone(0, 6, 1, 0));
        DUE.is("promise 18: 500 above, 1200 at 700", 1200, of(50, 1, 0).tone(0, 4, 1, 0));
        DUE.is("promise 18: 501 above, 3078 at 2577", 3078, of(99, 18, 0, 99, 3, 0).tone(0, 10, 1, 0));
        DUE.is("promise 18: far above", 26000000 / 2, of(1, 99, 0).tone(0, 11, 1, 0));
    }

    private static void upwardIfItIsJustThere() {
        DUE.is("promise 18: just there, 400", 650, of(1, 1, 0, 99, 1, 0).tone(0, 2, 1, 0));
        DUE.is("promise 18: 1 below, 396 at 397", 147, of(2, 1, 0, 99, 1, 0).tone(0, 2, 1, 0));
        DUE.is("promise 18: 1 above, 404 at 403", 653, of(99, 1, 0).tone(0, 2, 1, 0));
    }

    private static void halfOfWhatItLacks() {
        DUE.is("promise 18: 2 below, 498 at 500", 498 - 249, of(1, 2, 0, 99, 1, 0).tone(0, 3, 1, 0));
        DUE.is("promise 18: 2 above, 408 at 406", 408 + 249, of(98, 1, 0).tone(0, 2, 1, 0));
        DUE.is("promise 18: 100 below, 300 at 400", 300 - 200, of(1, 1, 0, 99, 1, 0).tone(0, 1, 1, 0));
        DUE.is("promise 18: 100 above, 500 at 400", 500 + 200, of(1, 1, 0, 99, 1, 0).tone(0, 3, 1, 0));
    }

    /** Just where the core rings, at 400, by a large spacing of 100. */
    private static void onlyTheDegree1() {
        AsteroTone x = of(1, 1, 0, 99, 1, 0);
        DUE.is("promise 18: degree 0, 350", 350, x.tone(0, 2, 0, 0));
        DUE.is("promise 18: degree 0, 450", 450, x.tone(0, 3, 0, 0));
        DUE.is("promise 18: degree 2, 350", 350, x.tone(0, 1, 2, 0));
        DUE.is("promise 18: degree 3, just there", 400, x.tone(0, 1, 3, 0));
    }

    private static void splitBehindThePush() {
        AsteroTone x = of(1, 1, 9, 99, 1, 9);
        DUE.is("promise 18: upward by 250, less 90", 400 + 250 - 90, x.tone(0, 2, 1, -1));
        DUE.is("promise 18: upward by 250, and 90", 400 + 250 + 90, x.tone(0, 2, 1, 1));
        DUE.is("promise 18: downward by 200, and 90", 300 - 200 + 90, x.tone(0, 1, 1, 1));
    }

    /** The small spacing of 392 counts 12 times for the degree 3, and each part 10 times the spin. */
    private static void tonesBelow0() {
        AsteroTone x = of(99, 99, 9, 99, 1, 9, 99, 99, 9, 99, 1, 9, 99, 99, 9, 99, 1, 9, 99, 99, 9, 99, 1, 9);
        DUE.is("promise 16: 4 times 1000 and 4 times 99000", 400000, x.ofStar(0, 1));
        DUE.is("promise 18: 25 times 8 by 2, less 4704, less 270", 100 - 4704 - 270, x.tone(0, 1, 3, -3));
        DUE.is("promise 18: 25 times 7 by 2 is 87.5", 87 - 2352 - 180, x.tone(0, 1, 2, -2));
        DUE.is("promise 18: degree 1, far below where the core rings", 75 - 784 - 90, x.tone(0, 1, 1, -1));
    }
}
