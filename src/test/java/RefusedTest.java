/**
 * "A call that throws an exception changes nothing. If several exceptions apply, the one that is named first
 * in the throws clause is thrown": each refused call, with what is told before and after it.
 */
public final class RefusedTest {
    private static final Due DUE = new Due("RefusedTest");
    private static final Class<?> INDEX = IndexOutOfBoundsException.class;
    private static final Class<?> ARGUMENT = IllegalArgumentException.class;
    private static final Class<?> STATE = IllegalStateException.class;
    private static final int LEAST = Integer.MIN_VALUE;
    private static final int MOST = Integer.MAX_VALUE;

    private interface Maker {
        AsteroTone make();
    }

    private interface Act {
        long on(AsteroTone x);
    }

    private static String scene;
    private static Maker maker;

    public static void main(String[] args) {
        ofNothing("a new object", AsteroTone::new);
        shellsAndStars("some stars", Scene::some);
        framesAndMasks("some stars", Scene::some);
        linesOut("some stars", Scene::some);
        tones("some stars", Scene::some);
        agesAndPlanets("some stars", Scene::some);
        citesAndWithdrawals("some stars", Scene::some);
        tellingOfStars("some stars", Scene::some);
        tellingOfLight("some stars", Scene::some);
        tellingOfClaims("some stars", Scene::some);
        fullStars("six stars", Scene::full);
        fullClaims("forty claims", Scene::full);
        tellingChangesNothing();
        DUE.close();
    }

    /** The call on one object between two tellings, and on another one whose hidden state is then laid open. */
    private static void refused(Class<?> want, String what, Act call) {
        String name = scene + ": " + what;
        AsteroTone x = maker.make();
        String before = Told.of(x);
        DUE.thrown(name, want, () -> call.on(x));
        DUE.same(name + ", and what is told after it", before, Told.of(x));
        AsteroTone y = maker.make();
        DUE.thrown(name + ", again", want, () -> call.on(y));
        DUE.same(name + ", and what is laid open after it", Told.byChanging(maker.make()), Told.byChanging(y));
    }

    private static void begin(String name, Maker made) {
        scene = name;
        maker = made;
    }

    private static void ofNothing(String name, Maker made) {
        begin(name, made);
        refused(STATE, "star without shells", x -> x.star(0));
        refused(ARGUMENT, "star without shells, and of the age -1", x -> x.star(-1));
        refused(ARGUMENT, "star without shells, and of the age 100", x -> x.star(100));
        refused(INDEX, "frame", x -> x.frame(0, 0, 0, 0));
        refused(INDEX, "drop", x -> x.drop(0, 0));
        refused(INDEX, "takeOut", x -> x.takeOut(0, 1));
        refused(INDEX, "putBack", x -> x.putBack(0));
        refused(INDEX, "claimTone", x -> x.claimTone(0, 0, 1));
        refused(INDEX, "claimAge", x -> x.claimAge(0, 0));
        refused(INDEX, "claimPlanet", x -> x.claimPlanet(0));
        refused(INDEX, "cite", x -> x.cite(0, 0));
        refused(INDEX, "withdraw", x -> x.withdraw(0));
        refused(INDEX, "ofStar", x -> x.ofStar(0, 0));
        refused(INDEX, "crossingAnew", x -> x.crossingAnew(0));
        refused(INDEX, "tone", x -> x.tone(0, 1, 0, 0));
        refused(INDEX, "frames", x -> x.frames(0));
        refused(INDEX, "value", x -> x.value(0, 0, 0));
        refused(INDEX, "power", x -> x.power(0, 0, 0));
        refused(INDEX, "window", x -> x.window(0, 0));
        refused(INDEX, "isPeak", x -> x.isPeak(0, 0, 1) ? 1 : 0);
        refused(INDEX, "isSeenThrough", x -> x.isSeenThrough(0, 0, 1, 2) ? 1 : 0);
        refused(INDEX, "ofClaim", x -> x.ofClaim(0, 0));
        refused(INDEX, "isSound", x -> x.isSound(0) ? 1 : 0);
    }

    private static void shellsAndStars(String name, Maker made) {
        begin(name, made);
        for (int off : new int[] {LEAST, -1, 0, 100, MOST}) {
            refused(ARGUMENT, "shell of the thickness " + off, x -> x.shell(off, 1, 0));
            refused(ARGUMENT, "shell of the speed " + off, x -> x.shell(1, off, 0));
        }
        for (int off : new int[] {LEAST, -1, 10, MOST}) {
            refused(ARGUMENT, "shell of the spin " + off, x -> x.shell(1, 1, off));
        }
        for (int off : new int[] {LEAST, -1, 100, MOST}) {
            refused(ARGUMENT, "star of the age " + off, x -> x.star(off));
        }
    }

    private static void framesAndMasks(String name, Maker made) {
        begin(name, made);
        for (int off : new int[] {LEAST, -1, 2, MOST}) {
            refused(INDEX, "frame of the star " + off, x -> x.frame(off, 0, 0, 5));
            refused(INDEX, "frame of the star " + off + ", time 256", x -> x.frame(off, 0, 256, 5));
            refused(INDEX, "drop of the star " + off, x -> x.drop(off, 0));
            refused(INDEX, "drop of the star " + off + ", time -1", x -> x.drop(off, -1));
            refused(INDEX, "drop of the star " + off + ", no frame", x -> x.drop(off, 1));
        }
        for (int off : new int[] {LEAST, -1, 4, MOST}) {
            refused(INDEX, "frame by the site " + off, x -> x.frame(0, off, 0, 5));
            refused(INDEX, "frame by the site " + off + ", count -1", x -> x.frame(0, off, 0, -1));
            refused(INDEX, "mask of the site " + off, x -> x.mask(off, true) ? 1 : 0);
            refused(INDEX, "mask no more of the site " + off, x -> x.mask(off, false) ? 1 : 0);
        }
        for (int off : new int[] {LEAST, -1, 256, MOST}) {
            refused(ARGUMENT, "frame at the time " + off, x -> x.frame(0, 0, off, 5));
            refused(ARGUMENT, "drop of the time " + off, x -> x.drop(0, off));
        }
        for (int off : new int[] {LEAST, -1, 10000, MOST}) {
            refused(ARGUMENT, "frame of the count " + off, x -> x.frame(0, 3, 0, off));
            refused(ARGUMENT, "frame of the count " + off + ", none before", x -> x.frame(1, 0, 1, off));
        }
        refused(STATE, "drop where there is no frame", x -> x.drop(0, 1));
        refused(STATE, "drop where only the other star has one", x -> x.drop(0, 255));
    }

    private static void linesOut(String name, Maker made) {
        begin(name, made);
        for (int off : new int[] {LEAST, -1, 0, 1000000001, MOST}) {
            refused(ARGUMENT, "threshold " + off, x -> x.threshold(off));
        }
        for (int off : new int[] {LEAST, -1, 2, MOST}) {
            refused(INDEX, "takeOut of the star " + off, x -> x.takeOut(off, 1));
            refused(INDEX, "takeOut of the star " + off + ", line 32", x -> x.takeOut(off, 32));
            refused(INDEX, "putBack of the star " + off, x -> x.putBack(off));
        }
        for (int off : new int[] {LEAST, -1, 0, 32, MOST}) {
            refused(ARGUMENT, "takeOut of the line " + off, x -> x.takeOut(1, off));
        }
    }

    private static void tones(String name, Maker made) {
        begin(name, made);
        for (int off : new int[] {LEAST, -1, 2, MOST}) {
            refused(INDEX, "claimTone of the star " + off, x -> x.claimTone(off, 1, 1));
            refused(INDEX, "claimTone of the star " + off + ", no peak", x -> x.claimTone(off, 1, 2));
        }
        for (int off : new int[] {LEAST, -1, 3, MOST}) {
            refused(INDEX, "claimTone by the filter " + off, x -> x.claimTone(0, off, 1));
            refused(INDEX, "claimTone by the filter " + off + ", line 31", x -> x.claimTone(0, off, 31));
        }
        for (int off : new int[] {LEAST, -1, 0, 2, 31, 32, MOST}) {
            refused(STATE, "claimTone of the line " + off, x -> x.claimTone(0, 1, off));
        }
    }

    /** Of the claims 0, 1 and 5 are of tones of the star 0, 2 of the star 1, 3 of an age, 4 and 6 of planets. */
    private static void agesAndPlanets(String name, Maker made) {
        begin(name, made);
        for (int off : new int[] {LEAST, -1, 7, MOST}) {
            refused(INDEX, "claimAge of " + off, x -> x.claimAge(off, 0));
            refused(INDEX, "claimAge of another one, " + off, x -> x.claimAge(0, off));
            refused(INDEX, "claimAge of " + off + " twice", x -> x.claimAge(off, off));
            refused(INDEX, "claimAge of " + off + " and of no tone", x -> x.claimAge(off, 3));
            refused(INDEX, "claimAge of no tone and of " + off, x -> x.claimAge(4, off));
            refused(INDEX, "claimAge of " + off + " and a withdrawn one", x -> x.claimAge(off, 5));
            refused(INDEX, "claimAge of a withdrawn one and " + off, x -> x.claimAge(5, off));
            refused(INDEX, "claimPlanet of " + off, x -> x.claimPlanet(off));
        }
        refused(ARGUMENT, "claimAge of an age", x -> x.claimAge(3, 0));
        refused(ARGUMENT, "claimAge of another one, an age", x -> x.claimAge(0, 3));
        refused(ARGUMENT, "claimAge of a planet", x -> x.claimAge(4, 2));
        refused(ARGUMENT, "claimAge of another one, a planet", x -> x.claimAge(2, 4));
        refused(ARGUMENT, "claimAge of two stars", x -> x.claimAge(0, 2));
        refused(ARGUMENT, "claimAge of two stars, the other way", x -> x.claimAge(2, 1));
        refused(ARGUMENT, "claimAge of one line", x -> x.claimAge(1, 1));
        refused(ARGUMENT, "claimAge of one line, withdrawn", x -> x.claimAge(5, 5));
        refused(ARGUMENT, "claimAge of two stars, one withdrawn", x -> x.claimAge(5, 2));
        refused(ARGUMENT, "claimAge of a planet that is withdrawn", x -> x.claimAge(6, 0));
        refused(ARGUMENT, "claimAge of a withdrawn one and of no tone", x -> x.claimAge(5, 3));
        refused(STATE, "claimAge of a withdrawn one", x -> x.claimAge(5, 0));
        refused(STATE, "claimAge of another one, withdrawn", x -> x.claimAge(0, 5));
        refused(ARGUMENT, "claimPlanet of an age", x -> x.claimPlanet(3));
        refused(ARGUMENT, "claimPlanet of a planet", x -> x.claimPlanet(4));
        refused(ARGUMENT, "claimPlanet of a planet that is withdrawn", x -> x.claimPlanet(6));
        refused(STATE, "claimPlanet of a withdrawn one", x -> x.claimPlanet(5));
    }

    private static void citesAndWithdrawals(String name, Maker made) {
        begin(name, made);
        for (int off : new int[] {LEAST, -1, 7, MOST}) {
            refused(INDEX, "cite by " + off, x -> x.cite(off, 0));
            refused(INDEX, "cite of " + off, x -> x.cite(0, off));
            refused(INDEX, "cite by and of " + off, x -> x.cite(off, off));
            refused(INDEX, "cite by " + off + ", of a withdrawn one", x -> x.cite(off, 5));
            refused(INDEX, "cite by a withdrawn one, of " + off, x -> x.cite(5, off));
            refused(INDEX, "withdraw of " + off, x -> x.withdraw(off));
        }
        refused(ARGUMENT, "cite of itself", x -> x.cite(0, 0));
        refused(ARGUMENT, "cite of the next one", x -> x.cite(0, 1));
        refused(ARGUMENT, "cite of itself, withdrawn", x -> x.cite(5, 5));
        refused(ARGUMENT, "cite by a withdrawn one, of a higher one", x -> x.cite(5, 6));
        refused(ARGUMENT, "cite of a higher one that is withdrawn", x -> x.cite(4, 5));
        refused(STATE, "cite by a withdrawn one", x -> x.cite(5, 4));
        refused(STATE, "cite by a withdrawn one, of one that it cites", x -> x.cite(6, 5));
        refused(STATE, "cite of what it cites", x -> x.cite(4, 0));
        refused(STATE, "cite of the tone that it is of", x -> x.cite(4, 2));
        refused(STATE, "cite of the first one that an age is of", x -> x.cite(3, 1));
        refused(STATE, "cite of the other one that an age is of", x -> x.cite(3, 0));
        refused(STATE, "withdraw of a withdrawn one", x -> x.withdraw(5));
        refused(STATE, "withdraw of one that went with another one", x -> x.withdraw(6));
    }

    private static void tellingOfStars(String name, Maker made) {
        begin(name, made);
        for (int off : new int[] {LEAST, -1, 2, MOST}) {
            refused(INDEX, "ofStar of " + off, x -> x.ofStar(off, 0));
            refused(INDEX, "ofStar of " + off + ", what 6", x -> x.ofStar(off, 6));
            refused(INDEX, "crossingAnew of " + off, x -> x.crossingAnew(off));
            refused(INDEX, "tone of " + off, x -> x.tone(off, 1, 0, 0));
            refused(INDEX, "tone of " + off + ", order 0", x -> x.tone(off, 0, 0, 0));
            refused(INDEX, "frames of " + off, x -> x.frames(off));
        }
        for (int off : new int[] {LEAST, -1, 6, MOST}) {
            refused(ARGUMENT, "ofStar, what " + off, x -> x.ofStar(0, off));
        }
        for (int off : new int[] {LEAST, -1, 0, 13, MOST}) {
            refused(ARGUMENT, "tone of the order " + off, x -> x.tone(0, off, 1, 0));
        }
        for (int off : new int[] {LEAST, -1, 4, MOST}) {
            refused(ARGUMENT, "tone of the degree " + off, x -> x.tone(0, 1, off, 0));
            refused(ARGUMENT, "tone of the degree and part " + off, x -> x.tone(0, 1, off, off));
        }
        for (int degree = 0; degree <= 3; degree++) {
            int of = degree;
            refused(ARGUMENT, "tone of the part above " + of, x -> x.tone(0, 1, of, of + 1));
            refused(ARGUMENT, "tone of the part below -" + of, x -> x.tone(0, 1, of, -of - 1));
            refused(ARGUMENT, "tone of the least part, degree " + of, x -> x.tone(0, 1, of, LEAST));
            refused(ARGUMENT, "tone of the greatest part, degree " + of, x -> x.tone(0, 1, of, MOST));
        }
    }

    private static void tellingOfLight(String name, Maker made) {
        begin(name, made);
        for (int off : new int[] {LEAST, -1, 2, MOST}) {
            refused(INDEX, "value of the star " + off, x -> x.value(off, 0, 0));
            refused(INDEX, "power of the star " + off, x -> x.power(off, 0, 0));
            refused(INDEX, "window of the star " + off, x -> x.window(off, 0));
            refused(INDEX, "window of the star " + off + ", line 32", x -> x.window(off, 32));
            refused(INDEX, "isPeak of the star " + off, x -> x.isPeak(off, 0, 31) ? 1 : 0);
            refused(INDEX, "isSeenThrough of the star " + off, x -> x.isSeenThrough(off, 0, 0, 1) ? 1 : 0);
        }
        for (int off : new int[] {LEAST, -1, 3, MOST}) {
            refused(INDEX, "value by the filter " + off, x -> x.value(0, off, 0));
            refused(INDEX, "value by the filter " + off + ", time 256", x -> x.value(0, off, 256));
            refused(INDEX, "power by the filter " + off, x -> x.power(0, off, 0));
            refused(INDEX, "power by the filter " + off + ", line -1", x -> x.power(0, off, -1));
            refused(INDEX, "isPeak by the filter " + off, x -> x.isPeak(0, off, 1) ? 1 : 0);
            refused(INDEX, "isPeak by the filter " + off + ", line 32", x -> x.isPeak(0, off, 32) ? 1 : 0);
            refused(INDEX, "isSeenThrough by the filter " + off, x -> x.isSeenThrough(0, off, 0, 1) ? 1 : 0);
            refused(INDEX, "isSeenThrough by the filter " + off + ", same lines",
                    x -> x.isSeenThrough(0, off, 1, 1) ? 1 : 0);
        }
        for (int off : new int[] {LEAST, -1, 256, MOST}) {
            refused(ARGUMENT, "value at the time " + off, x -> x.value(1, 2, off));
        }
        for (int off : new int[] {LEAST, -1, 32, MOST}) {
            refused(ARGUMENT, "power of the line " + off, x -> x.power(1, 2, off));
            refused(ARGUMENT, "window of the line " + off, x -> x.window(1, off));
            refused(ARGUMENT, "isSeenThrough of the line " + off, x -> x.isSeenThrough(1, 2, off, 1) ? 1 : 0);
            refused(ARGUMENT, "isSeenThrough, other line " + off, x -> x.isSeenThrough(1, 2, 1, off) ? 1 : 0);
            refused(ARGUMENT, "isSeenThrough, both lines " + off, x -> x.isSeenThrough(1, 2, off, off) ? 1 : 0);
        }
        for (int line : new int[] {0, 1, 30, 31}) {
            refused(ARGUMENT, "isSeenThrough, twice " + line, x -> x.isSeenThrough(1, 2, line, line) ? 1 : 0);
        }
    }

    private static void tellingOfClaims(String name, Maker made) {
        begin(name, made);
        for (int off : new int[] {LEAST, -1, 7, MOST}) {
            refused(INDEX, "ofClaim of " + off, x -> x.ofClaim(off, 0));
            refused(INDEX, "ofClaim of " + off + ", what 6", x -> x.ofClaim(off, 6));
            refused(INDEX, "isSound of " + off, x -> x.isSound(off) ? 1 : 0);
        }
        for (int off : new int[] {LEAST, -1, 6, MOST}) {
            refused(ARGUMENT, "ofClaim, what " + off, x -> x.ofClaim(0, off));
            refused(ARGUMENT, "ofClaim of a withdrawn one, what " + off, x -> x.ofClaim(6, off));
        }
    }

    private static void fullStars(String name, Maker made) {
        begin(name, made);
        refused(STATE, "a ninth shell", x -> x.shell(1, 1, 0));
        refused(STATE, "a ninth shell, the greatest", x -> x.shell(99, 99, 9));
        refused(ARGUMENT, "a ninth shell of the thickness 0", x -> x.shell(0, 1, 0));
        refused(ARGUMENT, "a ninth shell of the speed 100", x -> x.shell(1, 100, 0));
        refused(ARGUMENT, "a ninth shell of the spin 10", x -> x.shell(1, 1, 10));
        refused(STATE, "a seventh star", x -> x.star(0));
        refused(STATE, "a seventh star of the age 99", x -> x.star(99));
        refused(ARGUMENT, "a seventh star of the age -1", x -> x.star(-1));
        refused(ARGUMENT, "a seventh star of the age 100", x -> x.star(100));
        refused(STATE, "a seventh line", x -> x.takeOut(0, 1));
        refused(STATE, "a seventh line, the last", x -> x.takeOut(0, 31));
        refused(ARGUMENT, "a seventh line, 0", x -> x.takeOut(0, 0));
        refused(ARGUMENT, "a seventh line, 32", x -> x.takeOut(0, 32));
        refused(INDEX, "a line of a seventh star", x -> x.takeOut(6, 1));
        refused(INDEX, "a frame of a seventh star", x -> x.frame(6, 0, 0, 0));
    }

    /** The claims 0 to 36 are of tones, the last of them withdrawn, 37 of an age, 38 and 39 of planets. */
    private static void fullClaims(String name, Maker made) {
        begin(name, made);
        refused(STATE, "one more tone", x -> x.claimTone(5, 1, 1));
        refused(STATE, "one more tone, and no peak", x -> x.claimTone(5, 1, 2));
        refused(INDEX, "one more tone of a seventh star", x -> x.claimTone(6, 1, 1));
        refused(INDEX, "one more tone by the filter 3", x -> x.claimTone(5, 3, 1));
        refused(STATE, "one more age", x -> x.claimAge(0, 1));
        refused(STATE, "one more age, of a withdrawn one", x -> x.claimAge(36, 1));
        refused(ARGUMENT, "one more age, of one line", x -> x.claimAge(0, 3));
        refused(ARGUMENT, "one more age, of an age", x -> x.claimAge(37, 0));
        refused(INDEX, "one more age, of no claim", x -> x.claimAge(0, 40));
        refused(STATE, "one more planet", x -> x.claimPlanet(0));
        refused(STATE, "one more planet, of a withdrawn one", x -> x.claimPlanet(36));
        refused(ARGUMENT, "one more planet, of a planet", x -> x.claimPlanet(38));
        refused(INDEX, "one more planet, of no claim", x -> x.claimPlanet(40));
        refused(INDEX, "cite by the claim 40", x -> x.cite(40, 39));
        refused(INDEX, "withdraw of the claim 40", x -> x.withdraw(40));
        refused(INDEX, "ofClaim of the claim 40", x -> x.ofClaim(40, 0));
        refused(INDEX, "isSound of the claim 40", x -> x.isSound(40) ? 1 : 0);
        refused(STATE, "withdraw of a planet that went with its tone", x -> x.withdraw(39));
        refused(STATE, "cite of a tone that is withdrawn", x -> x.cite(38, 36));
    }

    private static void tellingChangesNothing() {
        AsteroTone x = Scene.some();
        String before = Told.of(x);
        DUE.same("what is told a second time", before, Told.of(x));
        DUE.same("what is laid open when it was told twice", Told.byChanging(Scene.some()), laidOpen());
        AsteroTone full = Scene.full();
        String many = Told.of(full);
        DUE.same("what is told a second time of many", many, Told.of(full));
    }

    private static String laidOpen() {
        AsteroTone x = Scene.some();
        Told.of(x);
        return Told.byChanging(x);
    }
}
