import java.util.Arrays;

/**
 * Stars that ring: what their shells make them sound like, the light that is told of them, and the
 * claims that are made of both. What each method promises stands in the document.
 */
public final class AsteroTone {
    public static final int NONE = -1;
    public static final int RAW = 0, MEAN = 1, DRIFT = 2;
    public static final int TONE = 0, AGE = 1, PLANET = 2;

    private static final int MOST_STARS = 6;
    private static final int MOST_SHELLS = 8;
    private static final int MOST_OUTS = 6;
    private static final int MOST_CLAIMS = 40;
    private static final int SITES = 4;
    private static final int TIMES = 256;
    private static final int LAST_LINE = 31;
    private static final int LAST_PEAK = 30;
    private static final int LAST_ORDER = 12;
    private static final int LAST_DEGREE = 3;
    private static final int LAST_PLANET_DEGREE = 2;
    private static final int CORE_REACH = 500;
    private static final int LINE_STEP = 40000;
    private static final int PLANET_REACH = 20000;

    // Written out for all 64 remainders, so that a number & 63 is always a place in it.
    private static final int[] COSINES = {
        1000, 995, 981, 957, 924, 882, 831, 773, 707, 634, 556, 471, 383, 290, 195, 98,
        0, -98, -195, -290, -383, -471, -556, -634, -707, -773, -831, -882, -924, -957, -981, -995,
        -1000, -995, -981, -957, -924, -882, -831, -773, -707, -634, -556, -471, -383, -290, -195, -98,
        0, 98, 195, 290, 383, 471, 556, 634, 707, 773, 831, 882, 924, 957, 981, 995
    };

    private final Star[] stars = new Star[MOST_STARS];
    private int starCount;
    private Star built = new Star();
    private final boolean[] masked = new boolean[SITES];
    private int least = 1000;
    private final Claim[] claims = new Claim[MOST_CLAIMS];
    private int claimCount;
    private final Light light = new Light();

    public AsteroTone() {
    }

    // ---- stars

    public int shell(int thick, int speed, int spin) throws IllegalArgumentException, IllegalStateException {
        if (isOutside(thick, 1, 99) || isOutside(speed, 1, 99) || isOutside(spin, 0, 9)) {
            throw new IllegalArgumentException("thick, speed or spin is out of range");
        }
        if (built.shells >= MOST_SHELLS) {
            throw new IllegalStateException("the star has 8 shells");
        }
        built.addShell(thick, speed, spin);
        return built.shells;
    }

    public int star(int age) throws IllegalArgumentException, IllegalStateException {
        if (isOutside(age, 0, 99)) {
            throw new IllegalArgumentException("the age is out of range");
        }
        if (built.shells == 0 || starCount >= MOST_STARS) {
            throw new IllegalStateException("the star has no shell, or there are 6 stars");
        }
        built.settle(age);
        stars[starCount] = built;
        built = new Star();
        starCount++;
        return starCount - 1;
    }

    // ---- light

    public int frame(int star, int site, int time, int count)
            throws IndexOutOfBoundsException, IllegalArgumentException {
        Star seen = starAt(star);
        lookForSite(site);
        lookAtTime(time);
        if (isOutside(count, 0, 9999)) {
            throw new IllegalArgumentException("the count is out of range");
        }
        int before = seen.counts[time];
        seen.counts[time] = count;
        seen.sites[time] = site;
        return before;
    }

    public int drop(int star, int time)
            throws IndexOutOfBoundsException, IllegalArgumentException, IllegalStateException {
        Star seen = starAt(star);
        lookAtTime(time);
        int before = seen.counts[time];
        if (before == NONE) {
            throw new IllegalStateException("there is no frame of that time");
        }
        seen.counts[time] = NONE;
        return before;
    }

    public boolean mask(int site, boolean is) throws IndexOutOfBoundsException {
        lookForSite(site);
        boolean was = masked[site];
        masked[site] = is;
        return was;
    }

    public int threshold(int power) throws IllegalArgumentException {
        if (isOutside(power, 1, 1000000000)) {
            throw new IllegalArgumentException("the power is out of range");
        }
        int before = least;
        least = power;
        return before;
    }

    public int takeOut(int star, int line)
            throws IndexOutOfBoundsException, IllegalArgumentException, IllegalStateException {
        Star seen = starAt(star);
        if (isOutside(line, 1, LAST_LINE)) {
            throw new IllegalArgumentException("the line is out of range");
        }
        if (seen.outs >= MOST_OUTS) {
            throw new IllegalStateException("6 lines are taken out");
        }
        seen.outLines[seen.outs] = line;
        seen.outs++;
        return seen.outs;
    }

    public int putBack(int star) throws IndexOutOfBoundsException {
        Star seen = starAt(star);
        int before = seen.outs;
        seen.outs = 0;
        return before;
    }

    // ---- claims

    public int claimTone(int star, int filter, int line) throws IndexOutOfBoundsException, IllegalStateException {
        Star seen = starAt(star);
        lookForFilter(filter);
        lookForRoom();
        if (!standsOut(seen, filter, line)) {
            throw new IllegalStateException("the line is no peak");
        }
        Claim claim = new Claim(TONE, star, line);
        claim.filter = filter;
        claim.outs = seen.outs;
        claim.power = light.strength(line);
        return enter(claim);
    }

    public int claimAge(int one, int other)
            throws IndexOutOfBoundsException, IllegalArgumentException, IllegalStateException {
        Claim first = claimAt(one);
        Claim second = claimAt(other);
        if (first.kind != TONE || second.kind != TONE) {
            throw new IllegalArgumentException("one is of no tone");
        }
        if (first.star != second.star || first.line == second.line) {
            throw new IllegalArgumentException("they are of two stars, or of one line");
        }
        lookForRoom();
        if (!first.stands || !second.stands) {
            throw new IllegalStateException("one is withdrawn");
        }
        Claim claim = new Claim(AGE, first.star, first.line);
        claim.age = ageOfNearest(LINE_STEP * Math.abs(first.line - second.line));
        claim.cited = bit(one) | bit(other);
        return enter(claim);
    }

    public int claimPlanet(int tone)
            throws IndexOutOfBoundsException, IllegalArgumentException, IllegalStateException {
        Claim heard = claimAt(tone);
        if (heard.kind != TONE) {
            throw new IllegalArgumentException("it is of no tone");
        }
        lookForRoom();
        if (!heard.stands) {
            throw new IllegalStateException("it is withdrawn");
        }
        Claim claim = new Claim(PLANET, heard.star, heard.line);
        claim.cited = bit(tone);
        return enter(claim);
    }

    public int cite(int claim, int other)
            throws IndexOutOfBoundsException, IllegalArgumentException, IllegalStateException {
        Claim citing = claimAt(claim);
        Claim cited = claimAt(other);
        if (other >= claim) {
            throw new IllegalArgumentException("the other one has not a lower number");
        }
        if (!citing.stands || !cited.stands || (citing.cited & bit(other)) != 0) {
            throw new IllegalStateException("one is withdrawn, or it cites that");
        }
        citing.cited |= bit(other);
        return Long.bitCount(citing.cited);
    }

    public int withdraw(int claim) throws IndexOutOfBoundsException, IllegalStateException {
        if (!claimAt(claim).stands) {
            throw new IllegalStateException("it is withdrawn");
        }
        return withdrawAll(bit(claim));
    }

    public int audit() {
        long unsound = 0;
        for (int number = 0; number < claimCount; number++) {
            Claim claim = claims[number];
            if (claim != null && claim.stands && !holds(claim)) {
                unsound |= bit(number);
            }
        }
        return withdrawAll(unsound);
    }

    // ---- what there is; nothing from here on changes anything

    public int ofStar(int star, int what) throws IndexOutOfBoundsException, IllegalArgumentException {
        Star told = starAt(star);
        switch (what) {
            case 0:
                return told.age;
            case 1:
                return told.crossing;
            case 2:
                return told.large;
            case 3:
                return told.small;
            case 4:
                return told.turn;
            case 5:
                return told.core;
            default:
                throw new IllegalArgumentException("what is out of range");
        }
    }

    public int crossingAnew(int star) throws IndexOutOfBoundsException {
        return starAt(star).crossedByUnits();
    }

    public int tone(int star, int order, int degree, int part)
            throws IndexOutOfBoundsException, IllegalArgumentException {
        Star ringing = starAt(star);
        if (isOutside(order, 1, LAST_ORDER) || isOutside(degree, 0, LAST_DEGREE)
                || isOutside(part, -degree, degree)) {
            throw new IllegalArgumentException("order, degree or part is out of range");
        }
        return ringing.ring(order, degree, part);
    }

    public int frames(int star) throws IndexOutOfBoundsException {
        light.gather(starAt(star), masked);
        return light.many;
    }

    public int value(int star, int filter, int time) throws IndexOutOfBoundsException, IllegalArgumentException {
        Star seen = starAt(star);
        lookForFilter(filter);
        lookAtTime(time);
        light.look(seen, masked, filter, seen.outs);
        return (int) light.valueAt(time);
    }

    public long power(int star, int filter, int line) throws IndexOutOfBoundsException, IllegalArgumentException {
        Star seen = starAt(star);
        lookForFilter(filter);
        lookAtLine(line);
        light.look(seen, masked, filter, seen.outs);
        return light.strength(line);
    }

    public long window(int star, int line) throws IndexOutOfBoundsException, IllegalArgumentException {
        Star seen = starAt(star);
        lookAtLine(line);
        light.gather(seen, masked);
        light.flatten();
        return light.strength(line);
    }

    public boolean isPeak(int star, int filter, int line) throws IndexOutOfBoundsException {
        Star seen = starAt(star);
        lookForFilter(filter);
        return standsOut(seen, filter, line);
    }

    public boolean isSeenThrough(int star, int filter, int line, int other)
            throws IndexOutOfBoundsException, IllegalArgumentException {
        Star seen = starAt(star);
        lookForFilter(filter);
        lookAtLine(line);
        lookAtLine(other);
        if (line == other) {
            throw new IllegalArgumentException("both lines are the same");
        }
        light.look(seen, masked, filter, seen.outs);
        if (light.strength(other) <= light.strength(line)) {
            return false;
        }
        light.flatten();
        long squared = (long) light.many * light.many;
        return 4 * light.strength(Math.abs(line - other)) >= squared;
    }

    public int ofClaim(int claim, int what) throws IndexOutOfBoundsException, IllegalArgumentException {
        Claim told = claimAt(claim);
        switch (what) {
            case 0:
                return told.kind;
            case 1:
                return told.star;
            case 2:
                return told.line;
            case 3:
                return told.age;
            case 4:
                return told.stands ? 1 : 0;
            case 5:
                return Long.bitCount(told.cited);
            default:
                throw new IllegalArgumentException("what is out of range");
        }
    }

    public boolean isSound(int claim) throws IndexOutOfBoundsException {
        return holds(claimAt(claim));
    }

    // ---- what arguments are looked at with

    private static boolean isOutside(int number, int from, int to) {
        return number < from || number > to;
    }

    private Star starAt(int star) {
        if (star < 0 || star >= starCount || stars[star] == null) {
            throw new IndexOutOfBoundsException("there is no such star");
        }
        return stars[star];
    }

    private Claim claimAt(int claim) {
        if (claim < 0 || claim >= claimCount || claims[claim] == null) {
            throw new IndexOutOfBoundsException("there is no such claim");
        }
        return claims[claim];
    }

    private static void lookForSite(int site) {
        if (isOutside(site, 0, SITES - 1)) {
            throw new IndexOutOfBoundsException("there is no such site");
        }
    }

    private static void lookForFilter(int filter) {
        if (isOutside(filter, RAW, DRIFT)) {
            throw new IndexOutOfBoundsException("there is no such filter");
        }
    }

    private static void lookAtTime(int time) {
        if (isOutside(time, 0, TIMES - 1)) {
            throw new IllegalArgumentException("the time is out of range");
        }
    }

    private static void lookAtLine(int line) {
        if (isOutside(line, 0, LAST_LINE)) {
            throw new IllegalArgumentException("the line is out of range");
        }
    }

    private void lookForRoom() {
        if (claimCount >= MOST_CLAIMS) {
            throw new IllegalStateException("there are 40 claims");
        }
    }

    // ---- what the calls share

    private static int cosine(int number) {
        return COSINES[number & 63];
    }

    private static int sine(int number) {
        return cosine(number - 16);
    }

    private static long bit(int claim) {
        return 1L << claim;
    }

    /** Leaves the light of the star as it is looked at, for more to be asked of it. */
    private boolean standsOut(Star seen, int filter, int line) {
        if (isOutside(line, 1, LAST_PEAK)) {
            return false;
        }
        light.look(seen, masked, filter, seen.outs);
        long here = light.strength(line);
        return here >= least && here > light.strength(line - 1) && here > light.strength(line + 1);
    }

    private int enter(Claim claim) {
        if (claimCount < MOST_CLAIMS) {
            claims[claimCount] = claim;
            claimCount++;
        }
        return claimCount - 1;
    }

    private int ageOfNearest(int spacing) {
        Star nearest = null;
        for (int number = 0; number < starCount; number++) {
            Star star = stars[number];
            if (star != null && (nearest == null || star.awayFrom(spacing) < nearest.awayFrom(spacing))) {
                nearest = star;
            }
        }
        return nearest == null ? NONE : nearest.age;
    }

    /** One way upward is enough, as a claim cites lower numbers alone. */
    private int withdrawAll(long named) {
        long gone = 0;
        for (int number = 0; number < claimCount; number++) {
            Claim claim = claims[number];
            boolean goes = (named & bit(number)) != 0 || (claim != null && (claim.cited & gone) != 0);
            if (claim != null && claim.stands && goes) {
                claim.stands = false;
                gone |= bit(number);
            }
        }
        return Long.bitCount(gone);
    }

    private boolean holds(Claim claim) {
        if (claim.star < 0 || claim.star >= starCount || stars[claim.star] == null) {
            return false;
        }
        Star star = stars[claim.star];
        if (claim.kind == TONE) {
            light.look(star, masked, claim.filter, Math.min(claim.outs, star.outs));
            return light.strength(claim.line) == claim.power;
        }
        return claim.kind != PLANET || !star.ringsNear(LINE_STEP * claim.line);
    }

    /** A star, or the one that is built: its shells, what they make of it, and what is told of its light. */
    private static final class Star {
        private final int[] thicks = new int[MOST_SHELLS];
        private final int[] speeds = new int[MOST_SHELLS];
        private final int[] spins = new int[MOST_SHELLS];
        private int shells;
        private int age;
        private int crossing;
        private int large;
        private int small;
        private int turn;
        private int core;
        private final int[] counts = new int[TIMES];
        private final int[] sites = new int[TIMES];
        private final int[] outLines = new int[MOST_OUTS];
        private int outs;

        private Star() {
            Arrays.fill(counts, NONE);
        }

        private void addShell(int thick, int speed, int spin) {
            if (shells < MOST_SHELLS) {
                thicks[shells] = thick;
                speeds[shells] = speed;
                spins[shells] = spin;
                shells++;
            }
        }

        /** Finds once what no later call can change. */
        private void settle(int years) {
            age = years;
            crossing = crossed();
            large = crossing > 0 ? 10000000 / crossing : 0;
            small = slowed();
            turn = turned();
            core = 3 * large + 100 * speeds[0];
        }

        private int crossed() {
            int sum = 0;
            for (int i = 0; i < shells && i < MOST_SHELLS; i++) {
                sum += speeds[i] > 0 ? 1000 * thicks[i] / speeds[i] : 0;
            }
            return sum;
        }

        private int crossedByUnits() {
            int sum = 0;
            for (int i = 0; i < shells && i < MOST_SHELLS; i++) {
                int left = 0;
                for (int unit = 0; unit < thicks[i] && speeds[i] > 0; unit++) {
                    left += 1000;
                    sum += left / speeds[i];
                    left %= speeds[i];
                }
            }
            return sum;
        }

        private int slowed() {
            int sum = 0;
            for (int i = 1; i < shells && i < MOST_SHELLS; i++) {
                sum += Math.max(0, speeds[i - 1] - speeds[i]);
            }
            return sum;
        }

        private int turned() {
            int weight = 0;
            int sum = 0;
            for (int i = 0; i < shells && i < MOST_SHELLS; i++) {
                weight += thicks[i];
                sum += thicks[i] * spins[i];
            }
            return weight > 0 ? sum / weight : 0;
        }

        private int awayFrom(int spacing) {
            return Math.abs(large - spacing);
        }

        private int ring(int order, int degree, int part) {
            int tone = Math.floorDiv(large * (2 * order + degree + 3), 2) - small * degree * (degree + 1);
            int away = Math.abs(tone - core);
            if (degree == 1 && away < CORE_REACH) {
                int push = (CORE_REACH - away) / 2;
                tone += tone >= core ? push : -push;
            }
            return tone + 10 * turn * part;
        }

        private boolean ringsNear(int spot) {
            for (int order = 1; order <= LAST_ORDER; order++) {
                for (int degree = 0; degree <= LAST_PLANET_DEGREE; degree++) {
                    if (Math.abs(ring(order, degree, 0) - spot) < PLANET_REACH) {
                        return true;
                    }
                }
            }
            return false;
        }
    }

    /** A claim of any kind; what it cites is kept bit by bit, as there are at most 40. */
    private static final class Claim {
        private final int kind;
        private final int star;
        private final int line;
        private int filter;
        private int outs;
        private long power;
        private int age = NONE;
        private long cited;
        private boolean stands = true;

        private Claim(int kind, int star, int line) {
            this.kind = kind;
            this.star = star;
            this.line = line;
        }
    }

    /** The frames of one star that are not left out, and their values; made once and used for every look. */
    private static final class Light {
        private final int[] times = new int[TIMES];
        private final long[] values = new long[TIMES];
        private int many;
        private long cosines;
        private long sines;

        private void look(Star star, boolean[] masked, int filter, int outs) {
            gather(star, masked);
            if (filter == MEAN) {
                lessMean();
            } else if (filter == DRIFT) {
                lessDrift();
            }
            for (int i = 0; i < outs && i < star.outLines.length; i++) {
                lessLine(star.outLines[i]);
            }
        }

        private void gather(Star star, boolean[] masked) {
            many = 0;
            for (int time = 0; time < TIMES; time++) {
                int site = star.sites[time];
                if (star.counts[time] != NONE && site >= 0 && site < masked.length && !masked[site]) {
                    times[many] = time;
                    values[many] = star.counts[time];
                    many++;
                }
            }
        }

        private void flatten() {
            Arrays.fill(values, 1);
        }

        private void lessMean() {
            long sum = 0;
            for (int i = 0; i < many; i++) {
                sum += values[i];
            }
            long mean = many > 0 ? Math.floorDiv(sum, (long) many) : 0;
            for (int i = 0; i < many; i++) {
                values[i] -= mean;
            }
        }

        private void lessDrift() {
            if (many == 0) {
                return;
            }
            long first = values[0];
            long more = values[many - 1] - first;
            long between = times[many - 1] - times[0];
            for (int i = 0; i < many; i++) {
                long gone = times[i] - times[0];
                values[i] -= first + (between > 0 ? Math.floorDiv(more * gone, between) : 0);
            }
        }

        private void lessLine(int line) {
            if (many == 0) {
                return;
            }
            sumUp(line);
            long share = 1000L * many;
            long even = 2 * cosines / share;
            long odd = 2 * sines / share;
            for (int i = 0; i < many; i++) {
                int angle = line * times[i];
                values[i] -= (even * cosine(angle) + odd * sine(angle)) / 1000;
            }
        }

        private void sumUp(int line) {
            cosines = 0;
            sines = 0;
            for (int i = 0; i < many; i++) {
                int angle = line * times[i];
                cosines += values[i] * cosine(angle);
                sines += values[i] * sine(angle);
            }
        }

        private long strength(int line) {
            sumUp(line);
            long even = cosines / 1000;
            long odd = sines / 1000;
            return even * even + odd * odd;
        }

        private long valueAt(int time) {
            for (int i = 0; i < many; i++) {
                if (times[i] == time) {
                    return values[i];
                }
            }
            return 0;
        }
    }
}
