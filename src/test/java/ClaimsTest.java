/** Promises 10 to 15, 25 and 26: claims, what they cite, withdrawals and audits. */
public final class ClaimsTest {
    private static final Due DUE = new Due("ClaimsTest");

    public static void main(String[] args) {
        claimTone();
        fortyClaims();
        claimAge();
        ages();
        claimPlanet();
        cite();
        withdraw();
        auditOfTones();
        auditOfMasksAndFilters();
        auditOfLinesTakenOut();
        auditOfPlanets();
        auditTakesThoseThatCite();
        ofClaim();
        isSound();
        planetEdges();
        DUE.close();
    }

    private static AsteroTone one() {
        AsteroTone x = new AsteroTone();
        x.shell(9, 99, 0);
        x.star(40);
        return x;
    }

    /** Less the mean, 1000, 0, -1000 and 0 at quarters of a turn: each line of 1, 3, 5 to 29 is a peak. */
    private static AsteroTone odd() {
        AsteroTone x = one();
        light(x, 0);
        return x;
    }

    private static void light(AsteroTone x, int star) {
        x.frame(star, 0, 0, 2000);
        x.frame(star, 1, 16, 1000);
        x.frame(star, 2, 32, 0);
        x.frame(star, 3, 48, 1000);
    }

    private static void stands(AsteroTone x, String what, int... claims) {
        for (int claim = 0; claim < claims.length; claim++) {
            DUE.is(what + ": claim " + claim + " stands", claims[claim], x.ofClaim(claim, 4));
        }
    }

    private static void claimTone() {
        AsteroTone x = odd();
        DUE.state("promise 10: no peak", () -> x.claimTone(0, 1, 2));
        DUE.state("promise 10: line 31", () -> x.claimTone(0, 1, 31));
        DUE.state("promise 10: line 0", () -> x.claimTone(0, 1, 0));
        DUE.state("promise 10: line -5", () -> x.claimTone(0, 1, -5));
        DUE.state("promise 10: line 99", () -> x.claimTone(0, 1, 99));
        DUE.index("promise 10: filter 3", () -> x.claimTone(0, 3, 1));
        DUE.index("promise 10: filter -1, and no peak", () -> x.claimTone(0, -1, 2));
        DUE.index("promise 10: star 1", () -> x.claimTone(1, 1, 1));
        DUE.index("promise 10: star -1", () -> x.claimTone(-1, 1, 1));
        DUE.is("promise 10: a first claim", 0, x.claimTone(0, 1, 1));
        DUE.is("promise 10: the same again", 1, x.claimTone(0, 1, 1));
        DUE.is("promise 10: another line", 2, x.claimTone(0, 1, 29));
        DUE.state("promise 10: no peak by the filter", () -> x.claimTone(0, 2, 2));
        x.threshold(4000001);
        DUE.state("promise 10: no peak now", () -> x.claimTone(0, 1, 1));
        DUE.is("promise 10: it stands though it is no peak now", 1, x.ofClaim(0, 4));
        DUE.is("promise 10: and replays", true, x.isSound(0));
    }

    private static void fortyClaims() {
        AsteroTone x = odd();
        for (int claim = 0; claim < 39; claim++) {
            DUE.is("promise 10: claim " + claim, claim, x.claimTone(0, 1, claim % 2 == 0 ? 1 : 3));
        }
        x.withdraw(5);
        DUE.is("promise 10: a withdrawn one keeps its number", 39, x.claimPlanet(0));
        DUE.state("promise 10: a 41st", () -> x.claimTone(0, 1, 1));
        DUE.index("promise 10: a 41st by no filter", () -> x.claimTone(0, 3, 1));
        DUE.state("promise 11: a 41st", () -> x.claimAge(0, 1));
        DUE.argument("promise 11: a 41st of one line", () -> x.claimAge(0, 2));
        DUE.state("promise 12: a 41st", () -> x.claimPlanet(0));
        DUE.argument("promise 12: a 41st of a planet", () -> x.claimPlanet(39));
        DUE.is("promise 13: the last one cites the others", 2, x.cite(39, 38));
        for (int claim = 1; claim < 38; claim++) {
            int many = claim < 5 ? claim + 2 : claim + 1;
            if (claim != 5) {
                DUE.is("promise 13: and claim " + claim, many, x.cite(39, claim));
            }
        }
        DUE.index("promise 13: no claim 40", () -> x.cite(40, 39));
        DUE.is("promise 14: the last but one, cited by the last", 2, x.withdraw(38));
        DUE.is("promise 15: of forty", 0, x.audit());
        x.drop(0, 0);
        DUE.is("promise 15: those that stood of forty", 37, x.audit());
    }

    private static void claimAge() {
        AsteroTone x = odd();
        x.shell(1, 1, 1);
        x.star(60);
        light(x, 1);
        x.claimTone(0, 1, 1);
        x.claimTone(0, 1, 7);
        x.claimTone(0, 1, 7);
        x.claimTone(1, 1, 1);
        DUE.is("promise 11: an age", 4, x.claimAge(1, 0));
        DUE.is("promise 11: it cites both", 2, x.ofClaim(4, 5));
        DUE.is("promise 11: its line is that of the first one", 7, x.ofClaim(4, 2));
        DUE.is("promise 11: the other way", 5, x.claimAge(0, 1));
        DUE.is("promise 11: its line, the other way", 1, x.ofClaim(5, 2));
        DUE.index("promise 11: no first one", () -> x.claimAge(6, 0));
        DUE.index("promise 11: no other one", () -> x.claimAge(0, 6));
        DUE.index("promise 11: -1", () -> x.claimAge(-1, 0));
        DUE.index("promise 11: other -1, of no tone", () -> x.claimAge(4, -1));
        DUE.argument("promise 11: one is an age", () -> x.claimAge(4, 0));
        DUE.argument("promise 11: the other one is an age", () -> x.claimAge(0, 4));
        DUE.argument("promise 11: the same claim", () -> x.claimAge(0, 0));
        DUE.argument("promise 11: of one line", () -> x.claimAge(1, 2));
        DUE.argument("promise 11: of two stars", () -> x.claimAge(3, 1));
        DUE.is("promise 14: one is withdrawn, and both ages", 3, x.withdraw(1));
        DUE.state("promise 11: one is withdrawn", () -> x.claimAge(1, 0));
        DUE.state("promise 11: the other one is withdrawn", () -> x.claimAge(0, 1));
        DUE.argument("promise 11: one is withdrawn, but of one line", () -> x.claimAge(1, 2));
        DUE.is("promise 11: calls that throw change nothing", 6, x.claimAge(0, 2));
    }

    /** Large spacings 83333, 77519, 83333 and 500; the ages 50, 20, 10 and 5. */
    private static AsteroTone ofFourAges() {
        AsteroTone x = new AsteroTone();
        x.shell(12, 99, 0);
        x.star(20);
        x.shell(6, 50, 0);
        x.star(50);
        x.shell(6, 50, 0);
        x.star(10);
        x.shell(20, 1, 0);
        x.star(5);
        light(x, 3);
        return x;
    }

    private static void ages() {
        AsteroTone x = ofFourAges();
        DUE.is("promise 16: 10000000 by 121", 82644, x.ofStar(0, 2));
        DUE.is("promise 16: 10000000 by 120", 83333, x.ofStar(1, 2));
        x.claimTone(3, 1, 1);
        x.claimTone(3, 1, 3);
        x.claimTone(3, 1, 5);
        DUE.is("promise 11: 80000 is 2644 away from the first star", 3, x.claimAge(0, 1));
        DUE.is("promise 11: its age", 20, x.ofClaim(3, 3));
        DUE.is("promise 11: its star", 3, x.ofClaim(3, 1));
        DUE.is("promise 11: 160000, either way", 4, x.claimAge(2, 0));
        DUE.is("promise 11: of the two at 83333 the one of the lowest number", 50, x.ofClaim(4, 3));
        x.shell(7, 1, 0);
        x.shell(99, 1, 0);
        x.star(77);
        DUE.is("promise 11: an age stays when stars come", 20, x.ofClaim(3, 3));
        x.shell(5, 40, 0);
        x.star(88);
        DUE.is("promise 16: 10000000 by 125", 80000, x.ofStar(5, 2));
        DUE.is("promise 11: just 80000", 5, x.claimAge(2, 1));
        DUE.is("promise 11: the age of that", 88, x.ofClaim(5, 3));
        AsteroTone low = odd();
        low.claimTone(0, 1, 1);
        low.claimTone(0, 1, 29);
        low.claimAge(0, 1);
        DUE.is("promise 11: of one star its own", 40, low.ofClaim(2, 3));
    }

    private static void claimPlanet() {
        AsteroTone x = odd();
        x.claimTone(0, 1, 3);
        x.claimTone(0, 1, 5);
        DUE.is("promise 12: a planet", 2, x.claimPlanet(1));
        DUE.is("promise 12: it cites its tone", 1, x.ofClaim(2, 5));
        DUE.is("promise 12: another one of it", 3, x.claimPlanet(1));
        x.claimAge(0, 1);
        DUE.index("promise 12: claim 5", () -> x.claimPlanet(5));
        DUE.index("promise 12: claim -1", () -> x.claimPlanet(-1));
        DUE.argument("promise 12: of a planet", () -> x.claimPlanet(2));
        DUE.argument("promise 12: of an age", () -> x.claimPlanet(4));
        x.withdraw(1);
        DUE.state("promise 12: of one that is withdrawn", () -> x.claimPlanet(1));
        DUE.argument("promise 12: of a planet that is withdrawn", () -> x.claimPlanet(2));
        stands(x, "promise 12", 1, 0, 0, 0, 0);
        DUE.is("promise 12: calls that throw change nothing", 5, x.claimPlanet(0));
    }

    private static void cite() {
        AsteroTone x = odd();
        x.claimTone(0, 1, 3);
        x.claimTone(0, 1, 5);
        x.claimTone(0, 1, 7);
        x.claimPlanet(1);
        DUE.is("promise 13: a tone cites one", 1, x.cite(2, 0));
        DUE.is("promise 13: and one more", 2, x.cite(2, 1));
        DUE.is("promise 13: a planet cites one besides", 2, x.cite(3, 2));
        DUE.state("promise 13: it cites that", () -> x.cite(3, 2));
        DUE.state("promise 13: its own tone", () -> x.cite(3, 1));
        DUE.argument("promise 13: itself", () -> x.cite(1, 1));
        DUE.argument("promise 13: a higher number", () -> x.cite(1, 2));
        DUE.index("promise 13: no such claim", () -> x.cite(4, 0));
        DUE.index("promise 13: no such other one", () -> x.cite(3, 4));
        DUE.index("promise 13: -1", () -> x.cite(-1, 0));
        DUE.index("promise 13: other -1", () -> x.cite(0, -1));
        DUE.is("promise 13: calls that throw change nothing", 2, x.ofClaim(3, 5));
        x.claimTone(0, 1, 9);
        x.claimTone(0, 1, 11);
        x.withdraw(4);
        DUE.state("promise 13: the other one is withdrawn", () -> x.cite(5, 4));
        DUE.state("promise 13: the claim is withdrawn", () -> x.cite(4, 3));
        DUE.argument("promise 13: withdrawn, and no lower number", () -> x.cite(4, 5));
        DUE.is("promise 13: none was added", 0, x.ofClaim(4, 5));
        DUE.is("promise 14: 2 goes with 1, and 3 with both", 3, x.withdraw(1));
    }

    private static void withdraw() {
        AsteroTone x = odd();
        for (int claim = 0; claim < 6; claim++) {
            x.claimTone(0, 1, 2 * claim + 1);
        }
        x.cite(3, 1);
        x.cite(4, 3);
        x.cite(5, 4);
        x.cite(4, 2);
        DUE.is("promise 14: cited by none", 1, x.withdraw(0));
        stands(x, "promise 14", 0, 1, 1, 1, 1, 1);
        DUE.state("promise 14: again", () -> x.withdraw(0));
        DUE.is("promise 14: 4 and 5 with 2", 3, x.withdraw(2));
        stands(x, "promise 14", 0, 1, 0, 1, 0, 0);
        DUE.state("promise 14: it went with another one", () -> x.withdraw(5));
        DUE.is("promise 14: those that are withdrawn are not counted again", 2, x.withdraw(1));
        stands(x, "promise 14", 0, 0, 0, 0, 0, 0);
        DUE.index("promise 14: claim 6", () -> x.withdraw(6));
        DUE.index("promise 14: claim -1", () -> x.withdraw(-1));
        DUE.is("promise 14: a withdrawn one still cites", 2, x.ofClaim(4, 5));
    }

    private static void auditOfTones() {
        AsteroTone x = odd();
        x.claimTone(0, 1, 1);
        x.claimTone(0, 1, 3);
        DUE.is("promise 15: as they were", 0, x.audit());
        stands(x, "promise 15", 1, 1);
        x.threshold(1000000000);
        DUE.is("promise 15: the threshold is nothing to it", 0, x.audit());
        x.frame(0, 0, 0, 2004);
        DUE.is("promise 15: no more", false, x.isSound(0));
        x.frame(0, 0, 0, 2000);
        DUE.is("promise 15: told again as it was", 0, x.audit());
        x.drop(0, 32);
        DUE.is("promise 15: both", 2, x.audit());
        stands(x, "promise 15", 0, 0);
        DUE.is("promise 15: none is withdrawn twice", 0, x.audit());
        x.frame(0, 2, 32, 0);
        DUE.is("promise 15: none comes back", 0, x.ofClaim(0, 4));
    }

    private static void auditOfMasksAndFilters() {
        AsteroTone x = one();
        x.frame(0, 0, 0, 9000);
        x.frame(0, 0, 31, 9000);
        x.frame(0, 1, 100, 0);
        DUE.is("promise 10: raw", 0, x.claimTone(0, 0, 2));
        light(x, 0);
        x.frame(0, 0, 31, 9000);
        x.drop(0, 16);
        x.drop(0, 32);
        x.drop(0, 48);
        x.frame(0, 0, 0, 9000);
        DUE.is("promise 15: a count of 0 is nothing to the raw sums", 0, x.audit());
        x.mask(1, true);
        DUE.is("promise 15: nor is it when it is masked", 0, x.audit());
        x.mask(0, true);
        DUE.is("promise 15: a mask takes the rest away", 1, x.audit());
        AsteroTone y = odd();
        y.claimTone(0, 1, 1);
        y.mask(1, true);
        y.mask(3, true);
        DUE.is("promise 15: masks as they are: 1000 and -1000 are left", true, y.isSound(0));
        y.mask(0, true);
        DUE.is("promise 15: masks as they are: nothing is left of it", 1, y.audit());
    }

    private static void auditOfLinesTakenOut() {
        AsteroTone x = one();
        int[] counts = {5, 900, 7000, 40, 6000, 300, 1, 8000, 20, 5555, 70, 3333};
        for (int i = 0; i < counts.length; i++) {
            x.frame(0, 0, i * i + 3, counts[i]);
        }
        x.threshold(1);
        x.takeOut(0, 4);
        int line = 1;
        while (!x.isPeak(0, 0, line)) {
            line++;
        }
        x.claimTone(0, 0, line);
        long kept = x.power(0, 0, line);
        x.takeOut(0, line);
        DUE.is("promise 15: the power is another one now", true, x.power(0, 0, line) != kept);
        DUE.is("promise 15: as many are taken out as there were, the first ones", true, x.isSound(0));
        x.putBack(0);
        DUE.is("promise 15: as far as there are so many", false, x.isSound(0));
        x.takeOut(0, line);
        DUE.is("promise 15: the first one is another one", false, x.isSound(0));
        x.putBack(0);
        x.takeOut(0, 4);
        x.takeOut(0, 9);
        DUE.is("promise 15: it is the same line again", 0, x.audit());
        x.putBack(0);
        DUE.is("promise 15: there are fewer", 1, x.audit());
    }

    /** With a large spacing of 111111 the tones are at 277777, 333333, 388888 and upward. */
    private static void auditOfPlanets() {
        AsteroTone x = one();
        light(x, 0);
        x.claimTone(0, 1, 5);
        x.claimTone(0, 1, 7);
        x.claimTone(0, 1, 9);
        x.claimPlanet(0);
        x.claimPlanet(1);
        x.claimPlanet(2);
        DUE.is("promise 26: 200000 is no tone", true, x.isSound(3));
        DUE.is("promise 26: 280000 is one", false, x.isSound(4));
        DUE.is("promise 26: 360000 is none", true, x.isSound(5));
        DUE.is("promise 15: one planet", 1, x.audit());
        stands(x, "promise 15", 1, 1, 1, 1, 0, 1);
        DUE.is("promise 26: withdrawn, and unsound as before", false, x.isSound(4));
        DUE.is("promise 26: its tone is sound", true, x.isSound(1));
    }

    private static void auditTakesThoseThatCite() {
        AsteroTone x = odd();
        x.claimTone(0, 1, 7);
        x.claimPlanet(0);
        x.claimTone(0, 1, 9);
        x.claimAge(0, 2);
        x.claimPlanet(2);
        x.cite(4, 1);
        x.cite(2, 0);
        x.claimTone(0, 1, 11);
        x.cite(5, 4);
        DUE.is("promise 15: the planet, and what cites it", 3, x.audit());
        stands(x, "promise 15", 1, 0, 1, 1, 0, 0);
        x.frame(0, 0, 100, 5000);
        DUE.is("promise 15: the tones, and the age with them", 3, x.audit());
        stands(x, "promise 15", 0, 0, 0, 0, 0, 0);
        DUE.is("promise 26: an age always", true, x.isSound(3));
    }

    private static void ofClaim() {
        AsteroTone x = new AsteroTone();
        x.shell(1, 1, 0);
        x.star(33);
        x.shell(9, 99, 0);
        x.star(44);
        light(x, 1);
        x.claimTone(1, 1, 7);
        x.claimTone(1, 1, 3);
        x.claimAge(0, 1);
        x.claimPlanet(1);
        int[][] due = {{0, 1, 7, -1, 1, 0}, {0, 1, 3, -1, 1, 0}, {1, 1, 7, 44, 1, 2}, {2, 1, 3, -1, 1, 1}};
        for (int claim = 0; claim < 4; claim++) {
            for (int what = 0; what < 6; what++) {
                DUE.is("promise 25: " + what + " of " + claim, due[claim][what], x.ofClaim(claim, what));
            }
        }
        DUE.is("promise 26: a tone of the second star", true, x.isSound(0));
        DUE.is("promise 26: a planet of the second star", true, x.isSound(3));
        DUE.is("promise 15: all of the second star", 0, x.audit());
        DUE.index("promise 25: claim 4, before what", () -> x.ofClaim(4, 6));
        DUE.index("promise 25: claim -1", () -> x.ofClaim(-1, 0));
        DUE.argument("promise 25: what 6", () -> x.ofClaim(0, 6));
        DUE.argument("promise 25: what -1", () -> x.ofClaim(0, -1));
        x.withdraw(0);
        DUE.is("promise 25: withdrawn", 0, x.ofClaim(2, 4));
        DUE.is("promise 25: its age", 44, x.ofClaim(2, 3));
        DUE.is("promise 25: how many it cites", 2, x.ofClaim(2, 5));
    }

    private static void isSound() {
        AsteroTone x = odd();
        x.claimTone(0, 1, 1);
        x.claimTone(0, 1, 3);
        x.claimAge(0, 1);
        DUE.is("promise 26: a tone", true, x.isSound(0));
        DUE.is("promise 26: an age", true, x.isSound(2));
        x.withdraw(0);
        DUE.is("promise 26: a withdrawn tone still replays", true, x.isSound(0));
        x.frame(0, 0, 64, 9);
        DUE.is("promise 26: a tone that does not", false, x.isSound(1));
        DUE.is("promise 26: a withdrawn tone that does not", false, x.isSound(0));
        DUE.is("promise 26: an age of such tones", true, x.isSound(2));
        DUE.is("promise 26: nothing is withdrawn by asking", 1, x.ofClaim(1, 4));
        DUE.index("promise 26: claim 3", () -> x.isSound(3) ? 1 : 0);
        DUE.index("promise 26: claim -1", () -> x.isSound(-1) ? 1 : 0);
    }

    /** Whether a planet at the line of a star of these shells is sound. */
    private static boolean sound(int line, int... shells) {
        AsteroTone x = new AsteroTone();
        for (int i = 0; i < shells.length; i += 3) {
            x.shell(shells[i], shells[i + 1], shells[i + 2]);
        }
        x.star(1);
        int apart = line % 2 == 1 ? 32 : line % 4 == 2 ? 16 : 8;
        for (int time = 0; time < 64; time += 8) {
            x.frame(0, 0, time, time % (2 * apart) == 0 ? 2000 : time % (2 * apart) == apart ? 0 : 1000);
        }
        x.claimPlanet(x.claimTone(0, 1, line));
        return x.isSound(1);
    }

    private static void planetEdges() {
        DUE.is("promise 26: 20000 below the first tone", true, sound(2, 3, 12, 0));
        DUE.is("promise 26: just at a tone", false, sound(3, 3, 12, 0));
        DUE.is("promise 26: the last but one tone", false, sound(14, 3, 12, 0));
        DUE.is("promise 26: 20000 above the last tone", true, sound(15, 3, 12, 0));
        DUE.is("promise 26: 19999 above the last tone", false, sound(1, 99, 46, 0, 5, 1, 0));
        DUE.is("promise 26: order 12 and degree 2, 80000 times 29 by 2 is 1160000", false, sound(29, 5, 40, 0));
        DUE.is("promise 26: order 12 and degree 2 at 1090211", false, sound(27, 4, 30, 0));
        DUE.is("promise 26: degree 3 is left out at 1127805", true, sound(28, 4, 30, 0));
        DUE.is("promise 26: spin is nothing to part 0, below", true, sound(2, 3, 12, 9));
        DUE.is("promise 26: spin is nothing to part 0, above", true, sound(15, 3, 12, 9));
    }
}
