/** Promises 1 to 3 and 16 to 18: a new object, shells, stars and what they sound like. */
public final class StarsTest {
    private static final Due DUE = new Due("StarsTest");

    public static void main(String[] args) {
        newObject();
        constants();
        shells();
        stars();
        ofStar();
        crossingAnew();
        plainTones();
        pushedTones();
        DUE.close();
    }

    /** Makes a star of shells told as thick, speed and spin, one behind the other. */
    private static AsteroTone ringing(int... shells) {
        AsteroTone x = new AsteroTone();
        for (int i = 0; i < shells.length; i += 3) {
            x.shell(shells[i], shells[i + 1], shells[i + 2]);
        }
        x.star(40);
        return x;
    }

    private static void newObject() {
        AsteroTone x = new AsteroTone();
        DUE.index("promise 1: ofStar(0, 0)", () -> x.ofStar(0, 0));
        DUE.index("promise 1: ofClaim(0, 0)", () -> x.ofClaim(0, 0));
        DUE.state("promise 1: star(0) without shells", () -> x.star(0));
        for (int site = 0; site < 4; site++) {
            DUE.is("promise 1: mask of site " + site, false, x.mask(site, false));
        }
        DUE.is("promise 1: threshold", 1000, x.threshold(5));
        DUE.is("promise 1: audit", 0, x.audit());
        AsteroTone y = new AsteroTone();
        DUE.is("promise 1: first shell", 1, y.shell(1, 1, 0));
        DUE.is("promise 1: first star", 0, y.star(0));
        DUE.is("promise 1: threshold of another object", 1000, y.threshold(1));
    }

    private static void constants() {
        DUE.is("NONE", -1, AsteroTone.NONE);
        DUE.is("RAW", 0, AsteroTone.RAW);
        DUE.is("MEAN", 1, AsteroTone.MEAN);
        DUE.is("DRIFT", 2, AsteroTone.DRIFT);
        DUE.is("TONE", 0, AsteroTone.TONE);
        DUE.is("AGE", 1, AsteroTone.AGE);
        DUE.is("PLANET", 2, AsteroTone.PLANET);
    }

    private static void shells() {
        AsteroTone x = new AsteroTone();
        DUE.argument("promise 2: thick 0", () -> x.shell(0, 1, 0));
        DUE.argument("promise 2: thick 100", () -> x.shell(100, 1, 0));
        DUE.argument("promise 2: speed 0", () -> x.shell(1, 0, 0));
        DUE.argument("promise 2: speed 100", () -> x.shell(1, 100, 0));
        DUE.argument("promise 2: spin -1", () -> x.shell(1, 1, -1));
        DUE.argument("promise 2: spin 10", () -> x.shell(1, 1, 10));
        DUE.argument("promise 2: least thick", () -> x.shell(Integer.MIN_VALUE, 1, 0));
        DUE.argument("promise 2: greatest speed", () -> x.shell(1, Integer.MAX_VALUE, 0));
        DUE.is("promise 2: least shell", 1, x.shell(1, 1, 0));
        DUE.is("promise 2: greatest shell", 2, x.shell(99, 99, 9));
        for (int many = 3; many <= 8; many++) {
            DUE.is("promise 2: shell " + many, many, x.shell(1, 1, 0));
        }
        DUE.state("promise 2: a ninth shell", () -> x.shell(1, 1, 0));
        DUE.argument("promise 2: a ninth shell out of range", () -> x.shell(0, 1, 0));
        x.star(0);
        DUE.is("promise 2: calls that throw change nothing", 7 * 1000 + 1000, x.ofStar(0, 1));
        DUE.is("promise 2: a shell of the next star", 1, x.shell(1, 1, 0));
    }

    private static void stars() {
        AsteroTone x = new AsteroTone();
        DUE.argument("promise 3: age -1", () -> x.star(-1));
        DUE.argument("promise 3: age 100", () -> x.star(100));
        DUE.state("promise 3: no shell", () -> x.star(99));
        for (int number = 0; number < 6; number++) {
            x.shell(number + 1, 1, 0);
            DUE.is("promise 3: star " + number, number, x.star(number == 5 ? 99 : number));
            DUE.state("promise 3: the next one has no shells", () -> x.star(0));
        }
        DUE.is("promise 3: shells are built even so", 1, x.shell(1, 1, 0));
        DUE.state("promise 3: a seventh star", () -> x.star(0));
        DUE.argument("promise 3: a seventh star of the age 100", () -> x.star(100));
        DUE.is("promise 3: the shell is still there", 2, x.shell(1, 1, 0));
        for (int number = 0; number < 6; number++) {
            DUE.is("promise 3: age of " + number, number == 5 ? 99 : number, x.ofStar(number, 0));
            DUE.is("promise 3: crossing of " + number, 1000 * (number + 1), x.ofStar(number, 1));
        }
        DUE.index("promise 3: no star 6", () -> x.ofStar(6, 0));
    }

    private static void ofStar() {
        AsteroTone x = ringing(10, 80, 9, 33, 71, 2, 7, 90, 0);
        DUE.is("promise 16: age", 40, x.ofStar(0, 0));
        DUE.is("promise 16: crossing, each rounded down", 125 + 464 + 77, x.ofStar(0, 1));
        DUE.is("promise 16: large", 15015, x.ofStar(0, 2));
        DUE.is("promise 16: small, of slower shells alone", 9, x.ofStar(0, 3));
        DUE.is("promise 16: spin 156 by 50", 3, x.ofStar(0, 4));
        DUE.is("promise 16: core", 3 * 15015 + 8000, x.ofStar(0, 5));
        DUE.argument("promise 16: what 6", () -> x.ofStar(0, 6));
        DUE.argument("promise 16: what -1", () -> x.ofStar(0, -1));
        DUE.index("promise 16: star -1", () -> x.ofStar(-1, 0));
        DUE.index("promise 16: star 1, before what", () -> x.ofStar(1, 6));
        AsteroTone y = ringing(2, 3, 1, 2, 3, 0);
        DUE.is("promise 16: 666 twice", 1332, y.ofStar(0, 1));
        DUE.is("promise 16: 10000000 by 1332", 7507, y.ofStar(0, 2));
        DUE.is("promise 16: none slower", 0, y.ofStar(0, 3));
        DUE.is("promise 16: spin rounded down", 0, y.ofStar(0, 4));
        AsteroTone z = ringing(1, 99, 9, 1, 50, 9, 1, 60, 9, 1, 20, 9);
        DUE.is("promise 16: slower twice", 49 + 40, z.ofStar(0, 3));
        DUE.is("promise 16: spin of all", 9, z.ofStar(0, 4));
        DUE.is("promise 16: four crossed", 10 + 20 + 16 + 50, z.ofStar(0, 1));
        AsteroTone thin = ringing(1, 90, 3);
        DUE.is("promise 16: spin of one unit", 3, thin.ofStar(0, 4));
        DUE.is("promise 16: 10000000 by 11", 909090, thin.ofStar(0, 2));
        AsteroTone fast = ringing(1, 99, 0);
        DUE.is("promise 16: the largest spacing", 1000000, fast.ofStar(0, 2));
    }

    private static void crossingAnew() {
        AsteroTone x = ringing(10, 80, 9, 33, 71, 2, 7, 90, 0);
        DUE.is("promise 17: three shells", 666, x.crossingAnew(0));
        AsteroTone y = ringing(2, 3, 1, 2, 3, 0);
        DUE.is("promise 17: nothing goes on to the next shell", 1332, y.crossingAnew(0));
        AsteroTone z = ringing(99, 99, 0);
        DUE.is("promise 17: what is left over goes on to the next unit", 1000, z.crossingAnew(0));
        AsteroTone all = ringing(99, 1, 0, 99, 1, 0, 99, 1, 0, 99, 1, 0, 99, 1, 0, 99, 1, 0, 99, 1, 0, 99, 1, 0);
        DUE.is("promise 17: the slowest star", 792000, all.crossingAnew(0));
        DUE.index("promise 17: star 1", () -> x.crossingAnew(1));
        DUE.index("promise 17: star -1", () -> x.crossingAnew(-1));
    }

    private static void plainTones() {
        AsteroTone x = ringing(10, 80, 9, 33, 71, 2, 7, 90, 0);
        DUE.is("promise 18: 15015 times 5 by 2", 37537, x.tone(0, 1, 0, 0));
        DUE.is("promise 18: order 12", 15015 * 27 / 2, x.tone(0, 12, 0, 0));
        DUE.is("promise 18: degree 1", 45045 - 18, x.tone(0, 1, 1, 0));
        DUE.is("promise 18: degree 2", 52552 - 54, x.tone(0, 1, 2, 0));
        DUE.is("promise 18: degree 3", 60060 - 108, x.tone(0, 1, 3, 0));
        for (int part = -3; part <= 3; part++) {
            DUE.is("promise 18: part " + part, 60060 - 108 + 30 * part, x.tone(0, 1, 3, part));
        }
        DUE.argument("promise 18: order 0", () -> x.tone(0, 0, 0, 0));
        DUE.argument("promise 18: order 13", () -> x.tone(0, 13, 0, 0));
        DUE.argument("promise 18: degree -1", () -> x.tone(0, 1, -1, 0));
        DUE.argument("promise 18: degree 4", () -> x.tone(0, 1, 4, 0));
        DUE.argument("promise 18: part 1 of degree 0", () -> x.tone(0, 1, 0, 1));
        DUE.argument("promise 18: part -3 of degree 2", () -> x.tone(0, 1, 2, -3));
        DUE.argument("promise 18: least degree and part", () -> x.tone(0, 1, Integer.MIN_VALUE, Integer.MIN_VALUE));
        DUE.index("promise 18: star 1, before order", () -> x.tone(1, 0, 0, 0));
        DUE.index("promise 18: star -1", () -> x.tone(-1, 1, 0, 0));
        AsteroTone steep = ringing(99, 99, 9, 99, 1, 9);
        DUE.is("promise 18: below 0", 100 * 8 / 2 - 98 * 12 - 270, steep.tone(0, 1, 3, -3));
    }

    private static void pushedTones() {
        AsteroTone just = ringing(99, 1, 0, 1, 1, 0);
        DUE.is("promise 18: just at the core, upward by 250", 400 + 250, just.tone(0, 2, 1, 0));
        DUE.is("promise 18: 100 below", 300 - 200, just.tone(0, 1, 1, 0));
        DUE.is("promise 18: 100 above", 500 + 200, just.tone(0, 3, 1, 0));
        DUE.is("promise 18: 400 above", 800 + 50, just.tone(0, 6, 1, 0));
        DUE.is("promise 18: 500 above", 900, just.tone(0, 7, 1, 0));
        DUE.is("promise 18: degree 0 is not pushed", 350, just.tone(0, 2, 0, 0));
        DUE.is("promise 18: degree 2 is not pushed", 450, just.tone(0, 2, 2, 0));
        DUE.is("promise 18: degree 3 is not pushed", 400, just.tone(0, 1, 3, 0));
        DUE.is("promise 18: 1 below, half rounded down", 396 - 249, ringing(99, 1, 0, 5, 4, 0).tone(0, 2, 1, 0));
        DUE.is("promise 18: 1 above, half rounded down", 404 + 249, ringing(99, 1, 0).tone(0, 2, 1, 0));
        DUE.is("promise 18: 497 above", 1194 + 1, ringing(50, 1, 0, 1, 4, 0).tone(0, 4, 1, 0));
        DUE.is("promise 18: 498 above", 1596 + 1, ringing(99, 3, 0, 99, 22, 0).tone(0, 4, 1, 0));
        DUE.is("promise 18: 499 above", 3996, ringing(50, 5, 0, 1, 91, 0).tone(0, 2, 1, 0));
        DUE.is("promise 18: 500 below", 1515, ringing(99, 5, 0).tone(0, 1, 1, 0));
        DUE.is("promise 18: 498 below", 5608 - 1, ringing(50, 19, 0, 99, 22, 0).tone(0, 2, 1, 0));
        DUE.is("promise 18: 497 below, small one told off first", 1944 - 1, ringing(7, 17, 0, 40, 1, 0).tone(0, 6, 1, 0));
        AsteroTone spinning = ringing(99, 1, 9, 1, 1, 9);
        DUE.is("promise 18: pushed before it is split", 650 - 90, spinning.tone(0, 2, 1, -1));
        DUE.is("promise 18: pushed before it is split, upward", 650 + 90, spinning.tone(0, 2, 1, 1));
    }
}
