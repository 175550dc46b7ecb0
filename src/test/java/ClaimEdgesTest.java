/** The edges that "Claims" and the promises 10 to 15, 25 and 26 name, a method for each sentence. */
public final class ClaimEdgesTest {
    private static final Due DUE = new Due("ClaimEdgesTest");
    private static final int RAW = AsteroTone.RAW;
    private static final int MEAN = AsteroTone.MEAN;
    private static final int DRIFT = AsteroTone.DRIFT;

    public static void main(String[] args) {
        atMostForty();
        withdrawnOnesCount();
        aLineThatIsAPeakNow();
        byAFilter();
        withSoManyLinesTakenOut();
        agesAtUnlikeLines();
        ageOfOneStarBothTones();
        ageOfTheLeastAway();
        ageOfSeveralTheLowest();
        ageIsKept();
        planetsOfTonesAlone();
        citesLowerNumbers();
        citesAsManyAsThereAre();
        withdrawsAllThatCite();
        withdrawsAChainOfForty();
        nothingToAudit();
        auditsThoseThatStand();
        auditsAllForty();
        auditsByThePowerAlone();
        auditsWithMasksAsTheyAre();
        auditsWithTheFirstLines();
        auditsPlanetsLessThan20000Away();
        auditsPlanetsOfTheListedTones();
        auditsNoAges();
        tellsOfClaims();
        soundForItsOwnSake();
        DUE.close();
    }

    private static AsteroTone odd(int... lines) {
        AsteroTone x = Scene.odd();
        for (int line : lines) {
            x.claimTone(0, MEAN, line);
        }
        return x;
    }

    private static void stand(String what, AsteroTone x, int... due) {
        for (int claim = 0; claim < due.length; claim++) {
            DUE.is(what + ": claim " + claim + " stands", due[claim], x.ofClaim(claim, 4));
        }
    }

    private static void atMostForty() {
        AsteroTone x = odd(1, 3);
        DUE.index("promise 25: no claim 2", () -> x.ofClaim(2, 0));
        for (int claim = 2; claim < 40; claim++) {
            int kind = claim % 3;
            int got = kind == 0 ? x.claimTone(0, MEAN, 5) : kind == 1 ? x.claimAge(0, 1) : x.claimPlanet(1);
            DUE.is("promises 10 to 12: claim " + claim, claim, got);
        }
        DUE.is("promise 25: the last one is a tone", 0, x.ofClaim(39, 0));
        DUE.state("promise 10: a 41st", () -> x.claimTone(0, MEAN, 1));
        DUE.state("promise 11: a 41st", () -> x.claimAge(0, 1));
        DUE.state("promise 12: a 41st", () -> x.claimPlanet(0));
        DUE.index("promise 25: no claim 40", () -> x.ofClaim(40, 0));
        DUE.index("promise 26: no claim 40", () -> x.isSound(40) ? 1 : 0);
        DUE.index("promise 14: no claim 40", () -> x.withdraw(40));
        DUE.is("promise 14: the last one", 1, x.withdraw(39));
        DUE.is("promise 25: claim 38 is a planet", 2, x.ofClaim(38, 0));
    }

    private static void withdrawnOnesCount() {
        AsteroTone x = Scene.odd();
        for (int claim = 0; claim < 40; claim++) {
            DUE.is("promise 10: claim " + claim, claim, x.claimTone(0, MEAN, 1));
            DUE.is("promise 14: claim " + claim, 1, x.withdraw(claim));
        }
        DUE.state("promise 10: none stands, but there are 40", () -> x.claimTone(0, MEAN, 1));
        DUE.is("promise 15: none stands", 0, x.audit());
    }

    private static void aLineThatIsAPeakNow() {
        AsteroTone x = Scene.even();
        DUE.state("promise 10: line 1", () -> x.claimTone(0, MEAN, 1));
        DUE.is("promise 10: line 2", 0, x.claimTone(0, MEAN, 2));
        DUE.is("promise 10: line 30, the last one", 1, x.claimTone(0, MEAN, 30));
        DUE.state("promise 10: line 31", () -> x.claimTone(0, MEAN, 31));
        DUE.state("promise 10: line 0, though it has power", () -> x.claimTone(0, RAW, 0));
        Scene.light(x, 0, 2000, 1000, 0, 1000);
        DUE.state("promise 10: line 2 is none now", () -> x.claimTone(0, MEAN, 2));
        DUE.is("promise 10: line 1, the first one", 2, x.claimTone(0, MEAN, 1));
        x.threshold(4000000);
        DUE.is("promise 10: just the threshold", 3, x.claimTone(0, MEAN, 3));
        x.threshold(4000001);
        DUE.state("promise 10: 1 less than the threshold", () -> x.claimTone(0, MEAN, 3));
        x.threshold(1);
        x.mask(0, true);
        x.mask(2, true);
        DUE.state("promise 10: masked", () -> x.claimTone(0, MEAN, 1));
    }

    /** Less the mean each odd line is a peak; less the drift, 0, -500, -2000 and 0, each fourth one. */
    private static void byAFilter() {
        AsteroTone x = Scene.one();
        Scene.light(x, 0, 2000, 1500, 0, 2000);
        for (int wrong : new int[] {Integer.MIN_VALUE, -1, 3, Integer.MAX_VALUE}) {
            DUE.index("promise 10: filter " + wrong, () -> x.claimTone(0, wrong, 1));
        }
        DUE.is("promise 21: line 4", 6250000, x.power(0, DRIFT, 4));
        DUE.is("promise 10: line 4 less the drift", 0, x.claimTone(0, DRIFT, 4));
        DUE.state("promise 10: line 1 less the drift", () -> x.claimTone(0, DRIFT, 1));
        DUE.is("promise 10: line 1 less the mean", 1, x.claimTone(0, MEAN, 1));
        DUE.state("promise 10: line 4 less the mean", () -> x.claimTone(0, MEAN, 4));
        DUE.is("promise 10: line 4, raw", 2, x.claimTone(0, RAW, 4));
        DUE.is("promise 15: each by its own filter", 0, x.audit());
        for (int time = 0; time < 64; time += 16) {
            x.frame(0, 0, time, x.value(0, RAW, time) + 1000);
        }
        DUE.is("promise 15: 1000 more in each is nothing to the mean and the drift", 1, x.audit());
        stand("promise 15", x, 1, 1, 0);
    }

    private static void withSoManyLinesTakenOut() {
        AsteroTone x = Scene.odd();
        for (int many = 0; many < 6; many++) {
            DUE.is("promise 10: " + many + " taken out", many, x.claimTone(0, MEAN, 1));
            x.takeOut(0, many % 2 == 0 ? 2 : 4);
        }
        DUE.is("promise 10: six taken out", 6, x.claimTone(0, MEAN, 1));
        DUE.is("promise 15: as many as there are", 0, x.audit());
        x.putBack(0);
        DUE.is("promise 15: the lines 2 and 4 had nothing", 0, x.audit());
        x.takeOut(0, 1);
        DUE.is("promise 15: the first one is line 1 now, but for the claim of none", 6, x.audit());
        stand("promise 15", x, 1, 0, 0, 0, 0, 0, 0);
        DUE.state("promise 10: taken out, it is no peak", () -> x.claimTone(0, MEAN, 1));
    }

    private static void agesAtUnlikeLines() {
        AsteroTone x = odd(1, 3, 1);
        DUE.argument("promise 11: one line of two claims", () -> x.claimAge(0, 2));
        DUE.argument("promise 11: one claim", () -> x.claimAge(1, 1));
        DUE.is("promise 11: unlike lines", 3, x.claimAge(0, 1));
        DUE.is("promise 11: the same again", 4, x.claimAge(0, 1));
        DUE.is("promise 11: the other one", 5, x.claimAge(2, 1));
    }

    private static void ageOfOneStarBothTones() {
        AsteroTone x = odd(1, 3);
        Scene.star(x, 50, 9, 99, 0);
        Scene.light(x, 1, 2000, 1000, 0, 1000);
        x.claimTone(1, MEAN, 5);
        x.claimPlanet(0);
        DUE.argument("promise 11: of two stars", () -> x.claimAge(0, 2));
        DUE.argument("promise 11: of two stars, the other way", () -> x.claimAge(2, 0));
        DUE.argument("promise 11: of a planet", () -> x.claimAge(3, 1));
        DUE.argument("promise 11: of another one, a planet", () -> x.claimAge(1, 3));
        DUE.is("promise 11: of one star", 4, x.claimAge(1, 0));
        DUE.argument("promise 11: of an age", () -> x.claimAge(4, 1));
        x.withdraw(0);
        DUE.state("promise 11: the other one is withdrawn", () -> x.claimAge(1, 0));
        DUE.state("promise 11: the one is withdrawn", () -> x.claimAge(0, 1));
        DUE.argument("promise 11: withdrawn, and of two stars", () -> x.claimAge(0, 2));
        DUE.index("promise 11: withdrawn, and none", () -> x.claimAge(0, 5));
    }

    /** The age of lines so far apart; a star is told as its age and the thickness and speed of its one shell. */
    private static int age(int apart, int[]... stars) {
        AsteroTone x = new AsteroTone();
        for (int star = 0; star < stars.length; star++) {
            Scene.star(x, stars[star][0], stars[star][1], stars[star][2], 0);
        }
        int from = apart == 29 ? 1 : 2;
        claimPeak(x, from);
        claimPeak(x, from + apart);
        int age = x.ofClaim(x.claimAge(1, 0), 3);
        DUE.is("promise 11: the same the other way", age, x.ofClaim(x.claimAge(0, 1), 3));
        return age;
    }

    /** Tells the light anew, so that the line is a peak: an odd one, or one of 2, 6, 10 to 30. */
    private static void claimPeak(AsteroTone x, int line) {
        boolean even = line % 2 == 0;
        Scene.light(x, 0, 2000, even ? 0 : 1000, even ? 2000 : 0, even ? 0 : 1000);
        x.claimTone(0, MEAN, line);
    }

    /** Large spacings: 40000 of 1 by 4, 80000 of 1 by 8, 1000000 of 1 by 99, 101 of 99 by 1. */
    private static void ageOfTheLeastAway() {
        int[] slow = {11, 99, 1};
        int[] one = {22, 1, 4};
        int[] two = {33, 1, 8};
        int[] most = {44, 1, 99};
        DUE.is("promise 11: one star", 11, age(29, slow));
        DUE.is("promise 11: 1 line apart is 40000", 22, age(1, slow, one, two, most));
        DUE.is("promise 11: 1 line apart, told last", 22, age(1, most, two, slow, one));
        DUE.is("promise 11: 1160000 is the nearest to 1000000", 44, age(29, slow, one, two, most));
        DUE.is("promise 11: 160000 is the nearest to 80000", 33, age(4, slow, one, two, most));
        DUE.is("promise 11: 520000 is 480000 below and 440000 above", 33, age(13, slow, two, most, one));
        DUE.is("promise 11: 600000 is 400000 below and 520000 above", 44, age(15, slow, two, most, one));
        DUE.is("promise 11: the age 0", 0, age(1, new int[] {0, 1, 4}, slow));
        DUE.is("promise 11: the age 99", 99, age(1, slow, new int[] {99, 1, 4}));
        DUE.is("promise 11: of six stars the last one", 22, age(1, slow, slow, most, two, two, one));
    }

    /** 32154 of 14 by 45 and 47846 of 9 by 43 are both 7846 away from 40000. */
    private static void ageOfSeveralTheLowest() {
        int[] below = {70, 14, 45};
        int[] above = {30, 9, 43};
        int[] slow = {11, 99, 1};
        DUE.is("promise 11: both as near, the star 0", 70, age(1, below, above));
        DUE.is("promise 11: both as near, the other one is the star 0", 30, age(1, above, below));
        DUE.is("promise 11: both as near, the star 1", 70, age(1, slow, below, above));
        DUE.is("promise 11: all the same", 11, age(1, slow, new int[] {5, 99, 1}, new int[] {99, 99, 1}));
    }

    private static void ageIsKept() {
        AsteroTone x = new AsteroTone();
        Scene.star(x, 11, 99, 1, 0);
        Scene.light(x, 0, 2000, 1000, 0, 1000);
        x.claimTone(0, MEAN, 1);
        x.claimTone(0, MEAN, 3);
        x.claimAge(0, 1);
        Scene.star(x, 33, 1, 8, 0);
        DUE.is("promise 11: there was no other star", 11, x.ofClaim(2, 3));
        DUE.is("promise 11: there is one now", 33, x.ofClaim(x.claimAge(0, 1), 3));
        x.withdraw(0);
        DUE.is("promise 25: the age of one that is withdrawn", 33, x.ofClaim(3, 3));
        DUE.is("promise 26: an age always", true, x.isSound(2));
    }

    private static void planetsOfTonesAlone() {
        AsteroTone x = odd(1, 5);
        DUE.is("promise 12: a planet", 2, x.claimPlanet(0));
        DUE.is("promise 12: another one", 3, x.claimPlanet(0));
        x.claimAge(0, 1);
        DUE.argument("promise 12: of a planet", () -> x.claimPlanet(2));
        DUE.argument("promise 12: of an age", () -> x.claimPlanet(4));
        DUE.index("promise 12: of the next one", () -> x.claimPlanet(5));
        DUE.index("promise 12: of -1", () -> x.claimPlanet(-1));
        x.withdraw(0);
        DUE.state("promise 12: of a withdrawn tone", () -> x.claimPlanet(0));
        DUE.argument("promise 12: of a withdrawn age", () -> x.claimPlanet(4));
        DUE.is("promise 12: of the other tone", 5, x.claimPlanet(1));
    }

    private static void citesLowerNumbers() {
        AsteroTone x = odd(1, 3, 5);
        DUE.argument("promise 13: itself, the first one", () -> x.cite(0, 0));
        DUE.argument("promise 13: itself, the last one", () -> x.cite(2, 2));
        DUE.argument("promise 13: a number 1 higher", () -> x.cite(1, 2));
        DUE.argument("promise 13: the first one has none lower", () -> x.cite(0, 1));
        DUE.index("promise 13: no such claim", () -> x.cite(3, 0));
        DUE.index("promise 13: no such other one, and it is higher", () -> x.cite(2, 3));
        DUE.is("promise 13: a number 1 lower", 1, x.cite(1, 0));
        DUE.is("promise 13: the lowest one", 1, x.cite(2, 0));
        DUE.is("promise 13: both", 2, x.cite(2, 1));
        DUE.state("promise 13: it cites that", () -> x.cite(2, 1));
        DUE.is("promise 11: an age of 1 and 2, which cite 0", 3, x.claimAge(1, 2));
        DUE.is("promise 13: the age cites 0 only now", 3, x.cite(3, 0));
    }

    private static void citesAsManyAsThereAre() {
        AsteroTone x = odd();
        for (int claim = 0; claim < 40; claim++) {
            x.claimTone(0, MEAN, 1);
        }
        for (int other = 38; other >= 0; other--) {
            DUE.is("promise 13: the last one cites " + other, 39 - other, x.cite(39, other));
            DUE.is("promise 25: how many it cites", 39 - other, x.ofClaim(39, 5));
        }
        for (int other = 0; other < 39; other++) {
            int of = other;
            DUE.state("promise 13: it cites " + of, () -> x.cite(39, of));
        }
        DUE.is("promise 25: others cite none", 0, x.ofClaim(38, 5));
        DUE.is("promise 14: the last one, cited by none", 1, x.withdraw(39));
        DUE.is("promise 14: cited by one that is withdrawn", 1, x.withdraw(0));
        DUE.is("promise 14: cited by one that is withdrawn, with the bit 38", 1, x.withdraw(38));
    }

    private static void withdrawsAllThatCite() {
        AsteroTone x = odd(1, 3, 5, 7);
        x.claimAge(0, 1);
        x.claimPlanet(2);
        x.cite(5, 4);
        x.cite(3, 2);
        DUE.is("promise 14: the age, and the planet that cites it", 3, x.withdraw(1));
        stand("promise 14", x, 1, 0, 1, 1, 0, 0);
        DUE.state("promise 14: again", () -> x.withdraw(1));
        DUE.state("promise 14: it went with that", () -> x.withdraw(5));
        DUE.state("promise 13: none cites by one that went", () -> x.cite(5, 3));
        DUE.is("promise 14: the tone that cites it, the planet is gone", 2, x.withdraw(2));
        stand("promise 14", x, 1, 0, 0, 0, 0, 0);
        DUE.index("promise 14: no such one", () -> x.withdraw(6));
        DUE.index("promise 14: -1", () -> x.withdraw(-1));
        DUE.is("promise 14: the last that stands", 1, x.withdraw(0));
        DUE.is("promise 15: none is left", 0, x.audit());
    }

    private static void withdrawsAChainOfForty() {
        AsteroTone x = Scene.odd();
        for (int claim = 0; claim < 40; claim++) {
            x.claimTone(0, MEAN, 1);
            if (claim > 0) {
                x.cite(claim, claim - 1);
            }
        }
        DUE.is("promise 14: the last one alone", 1, x.withdraw(39));
        DUE.is("promise 14: from the middle on", 20, x.withdraw(19));
        DUE.is("promise 14: the rest of the chain", 19, x.withdraw(0));
        for (int claim = 0; claim < 40; claim++) {
            DUE.is("promise 14: claim " + claim, 0, x.ofClaim(claim, 4));
        }
    }

    private static void nothingToAudit() {
        AsteroTone none = new AsteroTone();
        DUE.is("promise 15: a new object", 0, none.audit());
        DUE.is("promise 15: stars, no claims", 0, Scene.odd().audit());
        AsteroTone x = odd(1, 3);
        x.claimAge(0, 1);
        x.claimPlanet(0);
        DUE.is("promise 15: all hold", 0, x.audit());
        DUE.is("promise 15: all hold still", 0, x.audit());
        stand("promise 15", x, 1, 1, 1, 1);
    }

    private static void auditsThoseThatStand() {
        AsteroTone x = odd(1, 3, 5);
        x.cite(2, 1);
        x.withdraw(0);
        x.frame(0, 0, 0, 3000);
        DUE.is("promise 26: none replays", false, x.isSound(0) || x.isSound(1) || x.isSound(2));
        DUE.is("promise 15: the withdrawn one is not counted, each other one once", 2, x.audit());
        DUE.is("promise 15: nothing is left", 0, x.audit());
        x.frame(0, 0, 0, 2000);
        stand("promise 15: none comes back", x, 0, 0, 0);
        DUE.is("promise 26: but they replay", true, x.isSound(0) && x.isSound(1) && x.isSound(2));
    }

    private static void auditsAllForty() {
        AsteroTone x = odd(1, 3);
        x.claimAge(0, 1);
        for (int claim = 3; claim < 40; claim++) {
            x.claimPlanet(claim % 2);
        }
        x.drop(0, 0);
        DUE.is("promise 15: two tones and all that cite them", 40, x.audit());
        DUE.is("promise 15: once", 0, x.audit());
        stand("promise 15", x, new int[40]);
    }

    /** "whose power is not what it was": not whether it is a peak now, nor what other lines have. */
    private static void auditsByThePowerAlone() {
        AsteroTone x = odd(1);
        x.threshold(1000000000);
        DUE.is("promise 15: no peak now", 0, x.audit());
        Scene.light(x, 0, 9000, 0, 7000, 0);
        DUE.is("promise 21: another light of the same power", 4000000, x.power(0, MEAN, 1));
        DUE.is("promise 23: less than line 2", false, x.isPeak(0, MEAN, 1));
        DUE.is("promise 15: it is what it was", 0, x.audit());
        x.frame(0, 0, 0, 9001);
        DUE.is("promise 21: a little more", 2001 * 2001, x.power(0, MEAN, 1));
        DUE.is("promise 15: not what it was", 1, x.audit());
        AsteroTone less = odd(1);
        less.frame(0, 0, 0, 1999);
        DUE.is("promise 15: a little less", 1, less.audit());
    }

    private static void auditsWithMasksAsTheyAre() {
        AsteroTone x = odd(1);
        x.mask(1, true);
        DUE.is("promise 15: 1000 and -1000 are left", 0, x.audit());
        x.frame(0, 3, 40, 9999);
        x.mask(3, true);
        DUE.is("promise 15: a masked frame more", 0, x.audit());
        x.mask(3, false);
        DUE.is("promise 26: it is masked no more", false, x.isSound(0));
        x.mask(3, true);
        x.mask(0, true);
        x.mask(2, true);
        DUE.is("promise 26: all are masked", false, x.isSound(0));
        DUE.is("promise 15: all are masked", 1, x.audit());
    }

    /** The power that is kept is found with line 2 taken out, and with nothing else. */
    private static void auditsWithTheFirstLines() {
        AsteroTone x = Scene.seen(0, 3000, 9, 40, 20, 900, 31, 10, 47, 1500);
        x.threshold(1);
        x.takeOut(0, 2);
        int line = 1;
        while (line < 30 && !x.isPeak(0, MEAN, line)) {
            line++;
        }
        int of = line;
        DUE.is("promise 10: one is taken out", 0, x.claimTone(0, MEAN, of));
        x.takeOut(0, of);
        DUE.is("promise 15: the first one of two", 0, x.audit());
        for (int many = 3; many <= 6; many++) {
            x.takeOut(0, many);
        }
        DUE.is("promise 15: the first one of six", 0, x.audit());
        x.putBack(0);
        DUE.is("promise 26: none is taken out", false, x.isSound(0));
        x.takeOut(0, 2);
        DUE.is("promise 26: line 2 once more", true, x.isSound(0));
        x.putBack(0);
        x.takeOut(0, of);
        x.takeOut(0, 2);
        DUE.is("promise 26: line 2 is the second one", false, x.isSound(0));
        DUE.is("promise 15: line 2 is the second one", 1, x.audit());
    }

    /** Whether an audit keeps a planet at the line, of a star of these shells. */
    private static boolean keeps(int line, int... shells) {
        AsteroTone x = new AsteroTone();
        Scene.star(x, 1, shells);
        if (line % 4 == 0) {
            int half = line % 8 == 4 ? 8 : 4;
            for (int time = 0; time < 64; time += half) {
                x.frame(0, 0, time, time % (2 * half) == 0 ? 2000 : 0);
            }
        } else {
            boolean even = line % 2 == 0;
            Scene.light(x, 0, 2000, even ? 0 : 1000, even ? 2000 : 0, even ? 0 : 1000);
        }
        x.claimPlanet(x.claimTone(0, MEAN, line));
        boolean sound = x.isSound(1);
        DUE.is("promise 15: as it is sound", sound ? 0 : 1, x.audit());
        stand("promise 15: the planet of line " + line, x, 1, sound ? 1 : 0);
        return sound;
    }

    private static void auditsPlanetsLessThan20000Away() {
        DUE.is("promise 15: 500000 is 20000 below 520000", true, keeps(13, 1, 20, 0));
        DUE.is("promise 15: 700000 is 20000 above 680000", true, keeps(17, 1, 20, 0));
        DUE.is("promise 15: 340001 is 19999 below 360000", false, keeps(9, 6, 95, 0, 12, 33, 0));
        DUE.is("promise 15: 1139999 is 19999 above 1120000", false, keeps(28, 1, 80, 0, 1, 22, 0));
        DUE.is("promise 15: 300000 is 20000 above 280000, degree 1", true, keeps(7, 1, 10, 0));
        DUE.is("promise 15: 100000 is 20000 above 80000, degree 0", true, keeps(2, 1, 4, 0));
        DUE.is("promise 15: 580000 is 20000 below 600000, degree 2", true, keeps(15, 1, 4, 0));
    }

    /** "a tone of an order 1 to 12, a degree 0 to 2 and the part 0". */
    private static void auditsPlanetsOfTheListedTones() {
        DUE.is("promise 15: order 1, degree 0, just 200000", false, keeps(5, 1, 8, 0));
        DUE.is("promise 15: order 1, degree 1, just 240000", false, keeps(6, 1, 8, 0));
        DUE.is("promise 15: order 0, degree 1 would be 160000", true, keeps(4, 1, 8, 0));
        DUE.is("promise 15: order 0, degree 0 would be 120000", true, keeps(3, 1, 8, 0));
        DUE.is("promise 15: order 12, degree 2, just 1160000", false, keeps(29, 1, 8, 0));
        DUE.is("promise 15: order 12, degree 3 would be 1200000", true, keeps(30, 1, 8, 0));
        DUE.is("promise 15: order 12, degree 1, just 560000", false, keeps(14, 1, 4, 0));
        DUE.is("promise 15: order 13, degree 1 would be 600000", true, keeps(15, 1, 4, 0));
        DUE.is("promise 15: 580000 by the part 0, by the part 1 it would be 580090", true, keeps(15, 1, 4, 9));
        DUE.is("promise 15: 300000 by the part 0, by the part -1 it would be 299910", true, keeps(7, 1, 10, 9));
        DUE.is("promise 15: 700000 by the part 0, by the part -2 it would be 699820", true, keeps(17, 1, 20, 9));
        DUE.is("promise 15: far above all tones", true, keeps(30, 99, 1, 0));
        DUE.is("promise 15: tones far below 20000 are none", true, keeps(1, 99, 1, 0));
        DUE.is("promise 15: far below all tones", true, keeps(1, 1, 99, 0));
    }

    private static void auditsNoAges() {
        AsteroTone x = odd(1, 3, 5);
        x.claimAge(0, 1);
        x.claimAge(1, 2);
        x.frame(0, 0, 0, 2000);
        DUE.is("promise 15: two ages", 0, x.audit());
        x.withdraw(0);
        x.frame(0, 0, 7, 555);
        DUE.is("promise 26: an age of tones that do not replay", true, x.isSound(3) && x.isSound(4));
        DUE.is("promise 15: two tones, and the age with them", 3, x.audit());
        DUE.is("promise 26: an age always", true, x.isSound(3) && x.isSound(4));
    }

    private static void tellsOfClaims() {
        AsteroTone x = odd(7, 1);
        x.claimAge(1, 0);
        x.claimPlanet(0);
        int[][] due = {{0, 0, 7, -1, 1, 0}, {0, 0, 1, -1, 1, 0}, {1, 0, 1, 40, 1, 2}, {2, 0, 7, -1, 1, 1}};
        for (int claim = 0; claim < 4; claim++) {
            int of = claim;
            for (int what = 0; what <= 5; what++) {
                DUE.is("promise 25: claim " + of + ", what " + what, due[of][what], x.ofClaim(of, what));
            }
            for (int wrong : new int[] {Integer.MIN_VALUE, -1, 6, Integer.MAX_VALUE}) {
                DUE.argument("promise 25: what " + wrong, () -> x.ofClaim(of, wrong));
            }
        }
        for (int wrong : new int[] {Integer.MIN_VALUE, -1, 4, Integer.MAX_VALUE}) {
            DUE.index("promise 25: claim " + wrong, () -> x.ofClaim(wrong, 0));
            DUE.index("promise 25: claim " + wrong + ", what 6", () -> x.ofClaim(wrong, 6));
            DUE.index("promise 26: claim " + wrong, () -> x.isSound(wrong) ? 1 : 0);
        }
    }

    /** A planet is sound though its tone does not replay, and a tone though a claim that it cites does not. */
    private static void soundForItsOwnSake() {
        AsteroTone x = odd(1, 3, 5);
        x.claimPlanet(0);
        x.cite(2, 1);
        x.frame(0, 0, 0, 2400);
        DUE.is("promise 26: the tone", false, x.isSound(0));
        DUE.is("promise 26: its planet at 40000", true, x.isSound(3));
        DUE.is("promise 15: all four, each for a tone", 4, x.audit());
        DUE.is("promise 26: the planet, withdrawn", true, x.isSound(3));
        AsteroTone y = odd(1, 7);
        y.claimPlanet(1);
        DUE.is("promise 26: a planet at a tone", false, y.isSound(2));
        y.claimTone(0, MEAN, 9);
        y.cite(3, 2);
        DUE.is("promise 26: a tone that cites it", true, y.isSound(3));
        DUE.is("promise 15: the planet, and the tone that cites it", 2, y.audit());
        stand("promise 15", y, 1, 1, 0, 0);
    }
}
