import java.math.BigInteger;
import java.util.ArrayList;
import java.util.List;
import java.util.Map;
import java.util.Set;
import java.util.TreeMap;
import java.util.TreeSet;

/**
 * The document told a second time, as slowly and plainly as it goes, for runs to be compared with.
 * It shares no code and no way of keeping things with AsteroTone, and sums without a bound.
 */
public final class Model {
    private static final class Shell {
        final int thick;
        final int speed;
        final int spin;

        Shell(int thick, int speed, int spin) {
            this.thick = thick;
            this.speed = speed;
            this.spin = spin;
        }
    }

    private static final class Star {
        List<Shell> shells = new ArrayList<>();
        int age;
        TreeMap<Integer, int[]> frames = new TreeMap<>();
        List<Integer> outs = new ArrayList<>();
    }

    private static final class Claim {
        int kind;
        int star;
        int line;
        int filter;
        int outs;
        int age = -1;
        BigInteger power;
        boolean stands = true;
        Set<Integer> cites = new TreeSet<>();
    }

    private static final BigInteger THOUSAND = BigInteger.valueOf(1000);
    private static final int[] HEAD = {1000, 995, 981, 957, 924, 882, 831, 773, 707, 634, 556, 471, 383, 290, 195, 98, 0};

    private final List<Star> stars = new ArrayList<>();
    private List<Shell> building = new ArrayList<>();
    private final Set<Integer> masked = new TreeSet<>();
    private final List<Claim> claims = new ArrayList<>();
    private int threshold = 1000;

    public int shell(int thick, int speed, int spin) {
        argument(thick >= 1 && thick <= 99 && speed >= 1 && speed <= 99 && spin >= 0 && spin <= 9);
        state(building.size() < 8);
        building.add(new Shell(thick, speed, spin));
        return building.size();
    }

    public int star(int age) {
        argument(age >= 0 && age <= 99);
        state(!building.isEmpty() && stars.size() < 6);
        Star star = new Star();
        star.shells = building;
        star.age = age;
        building = new ArrayList<>();
        stars.add(star);
        return stars.size() - 1;
    }

    public int frame(int star, int site, int time, int count) {
        index(isStar(star) && site >= 0 && site <= 3);
        argument(time >= 0 && time <= 255 && count >= 0 && count <= 9999);
        int[] before = stars.get(star).frames.put(time, new int[] {site, count});
        return before == null ? -1 : before[1];
    }

    public int drop(int star, int time) {
        index(isStar(star));
        argument(time >= 0 && time <= 255);
        state(stars.get(star).frames.containsKey(time));
        return stars.get(star).frames.remove(time)[1];
    }

    public boolean mask(int site, boolean is) {
        index(site >= 0 && site <= 3);
        return is ? !masked.add(site) : masked.remove(site);
    }

    public int threshold(int power) {
        argument(power >= 1 && power <= 1000000000);
        int before = threshold;
        threshold = power;
        return before;
    }

    public int takeOut(int star, int line) {
        index(isStar(star));
        argument(line >= 1 && line <= 31);
        state(stars.get(star).outs.size() < 6);
        stars.get(star).outs.add(line);
        return stars.get(star).outs.size();
    }

    public int putBack(int star) {
        index(isStar(star));
        int before = stars.get(star).outs.size();
        stars.get(star).outs.clear();
        return before;
    }

    public int claimTone(int star, int filter, int line) {
        index(isStar(star) && isFilter(filter));
        state(claims.size() < 40 && isPeak(star, filter, line));
        Claim claim = new Claim();
        claim.kind = 0;
        claim.star = star;
        claim.line = line;
        claim.filter = filter;
        claim.outs = stars.get(star).outs.size();
        claim.power = powerOf(values(star, filter, claim.outs), line);
        claims.add(claim);
        return claims.size() - 1;
    }

    public int claimAge(int one, int other) {
        index(isClaim(one) && isClaim(other));
        Claim a = claims.get(one);
        Claim b = claims.get(other);
        argument(a.kind == 0 && b.kind == 0 && a.star == b.star && a.line != b.line);
        state(claims.size() < 40 && a.stands && b.stands);
        Claim claim = new Claim();
        claim.kind = 1;
        claim.star = a.star;
        claim.line = a.line;
        int best = 0;
        for (int s = 1; s < stars.size(); s++) {
            if (away(s, a, b) < away(best, a, b)) {
                best = s;
            }
        }
        claim.age = stars.get(best).age;
        claim.cites.add(one);
        claim.cites.add(other);
        claims.add(claim);
        return claims.size() - 1;
    }

    private int away(int star, Claim a, Claim b) {
        int spacing = 40000 * Math.abs(a.line - b.line);
        return Math.abs(spacing - ofStar(star, 2));
    }

    public int claimPlanet(int tone) {
        index(isClaim(tone));
        Claim of = claims.get(tone);
        argument(of.kind == 0);
        state(claims.size() < 40 && of.stands);
        Claim claim = new Claim();
        claim.kind = 2;
        claim.star = of.star;
        claim.line = of.line;
        claim.cites.add(tone);
        claims.add(claim);
        return claims.size() - 1;
    }

    public int cite(int claim, int other) {
        index(isClaim(claim) && isClaim(other));
        argument(other < claim);
        Claim of = claims.get(claim);
        state(of.stands && claims.get(other).stands && !of.cites.contains(other));
        of.cites.add(other);
        return of.cites.size();
    }

    public int withdraw(int claim) {
        index(isClaim(claim));
        state(claims.get(claim).stands);
        return fell(claim);
    }

    private int fell(int claim) {
        if (!claims.get(claim).stands) {
            return 0;
        }
        claims.get(claim).stands = false;
        int sum = 1;
        for (int c = 0; c < claims.size(); c++) {
            if (claims.get(c).cites.contains(claim)) {
                sum += fell(c);
            }
        }
        return sum;
    }

    public int audit() {
        List<Integer> bad = new ArrayList<>();
        for (int c = 0; c < claims.size(); c++) {
            if (claims.get(c).stands && !isSound(c)) {
                bad.add(c);
            }
        }
        int sum = 0;
        for (int c : bad) {
            sum += fell(c);
        }
        return sum;
    }

    public int ofStar(int star, int what) {
        index(isStar(star));
        argument(what >= 0 && what <= 5);
        List<Shell> shells = stars.get(star).shells;
        if (what == 0) {
            return stars.get(star).age;
        }
        if (what == 1) {
            return shells.stream().mapToInt(s -> 1000 * s.thick / s.speed).sum();
        }
        if (what == 2) {
            return 10000000 / ofStar(star, 1);
        }
        if (what == 3) {
            int sum = 0;
            for (int i = 0; i + 1 < shells.size(); i++) {
                int faster = shells.get(i).speed - shells.get(i + 1).speed;
                sum += faster > 0 ? faster : 0;
            }
            return sum;
        }
        if (what == 4) {
            return shells.stream().mapToInt(s -> s.thick * s.spin).sum()
                    / shells.stream().mapToInt(s -> s.thick).sum();
        }
        return 3 * ofStar(star, 2) + 100 * shells.get(0).speed;
    }

    public int crossingAnew(int star) {
        return ofStar(star, 1);
    }

    public int tone(int star, int order, int degree, int part) {
        index(isStar(star));
        argument(order >= 1 && order <= 12 && degree >= 0 && degree <= 3 && part >= -degree && part <= degree);
        int tone = ofStar(star, 2) * (order * 2 + degree + 3) / 2 - ofStar(star, 3) * degree * (degree + 1);
        int core = ofStar(star, 5);
        if (degree == 1 && tone > core - 500 && tone < core + 500) {
            if (tone < core) {
                tone = tone - (500 - (core - tone)) / 2;
            } else {
                tone = tone + (500 - (tone - core)) / 2;
            }
        }
        return tone + 10 * ofStar(star, 4) * part;
    }

    public int frames(int star) {
        index(isStar(star));
        return values(star, 0, 0).size();
    }

    public int value(int star, int filter, int time) {
        index(isStar(star) && isFilter(filter));
        argument(time >= 0 && time <= 255);
        BigInteger got = values(star, filter, 6).get(time);
        return got == null ? 0 : got.intValueExact();
    }

    public long power(int star, int filter, int line) {
        index(isStar(star) && isFilter(filter));
        argument(line >= 0 && line <= 31);
        return powerOf(values(star, filter, 6), line).longValueExact();
    }

    public long window(int star, int line) {
        index(isStar(star));
        argument(line >= 0 && line <= 31);
        Map<Integer, BigInteger> ones = values(star, 0, 0);
        ones.replaceAll((time, value) -> BigInteger.ONE);
        return powerOf(ones, line).longValueExact();
    }

    public boolean isPeak(int star, int filter, int line) {
        index(isStar(star) && isFilter(filter));
        if (line <= 0 || line >= 31) {
            return false;
        }
        long here = power(star, filter, line);
        return here >= threshold && here > power(star, filter, line - 1) && here > power(star, filter, line + 1);
    }

    public boolean isSeenThrough(int star, int filter, int line, int other) {
        index(isStar(star) && isFilter(filter));
        argument(line >= 0 && line <= 31 && other >= 0 && other <= 31 && line != other);
        long many = frames(star);
        return power(star, filter, other) > power(star, filter, line)
                && 4 * window(star, Math.abs(line - other)) >= many * many;
    }

    public int ofClaim(int claim, int what) {
        index(isClaim(claim));
        argument(what >= 0 && what <= 5);
        Claim of = claims.get(claim);
        int[] told = {of.kind, of.star, of.line, of.age, of.stands ? 1 : 0, of.cites.size()};
        return told[what];
    }

    public boolean isSound(int claim) {
        index(isClaim(claim));
        Claim of = claims.get(claim);
        if (of.kind == 0) {
            return powerOf(values(of.star, of.filter, of.outs), of.line).equals(of.power);
        }
        for (int order = 1; of.kind == 2 && order <= 12; order++) {
            for (int degree = 0; degree <= 2; degree++) {
                if (Math.abs(tone(of.star, order, degree, 0) - 40000 * of.line) < 20000) {
                    return false;
                }
            }
        }
        return true;
    }

    private static int cosine(int number) {
        int at = number % 64;
        if (at < 0) {
            at += 64;
        }
        if (at >= 33) {
            at = 64 - at;
        }
        return at >= 17 ? -HEAD[32 - at] : HEAD[at];
    }

    private static BigInteger sum(Map<Integer, BigInteger> values, int line, int less) {
        BigInteger sum = BigInteger.ZERO;
        for (Map.Entry<Integer, BigInteger> frame : values.entrySet()) {
            sum = sum.add(frame.getValue().multiply(BigInteger.valueOf(cosine(line * frame.getKey() - less))));
        }
        return sum;
    }

    private static BigInteger powerOf(Map<Integer, BigInteger> values, int line) {
        BigInteger one = sum(values, line, 0).divide(THOUSAND);
        BigInteger two = sum(values, line, 16).divide(THOUSAND);
        return one.multiply(one).add(two.multiply(two));
    }

    private TreeMap<Integer, BigInteger> values(int star, int filter, int outs) {
        TreeMap<Integer, Integer> counts = new TreeMap<>();
        stars.get(star).frames.forEach((time, frame) -> {
            if (!masked.contains(frame[0])) {
                counts.put(time, frame[1]);
            }
        });
        TreeMap<Integer, BigInteger> values = new TreeMap<>();
        counts.forEach((time, count) -> values.put(time, BigInteger.valueOf(count - less(counts, filter, time))));
        List<Integer> taken = stars.get(star).outs;
        for (int line : taken.subList(0, Math.min(outs, taken.size()))) {
            takeFrom(values, line);
        }
        return values;
    }

    private static int less(TreeMap<Integer, Integer> counts, int filter, int time) {
        if (filter == 1) {
            return counts.values().stream().mapToInt(c -> c).sum() / counts.size();
        }
        if (filter == 2 && counts.size() == 1) {
            return counts.get(time);
        }
        if (filter == 2) {
            int first = counts.firstEntry().getValue();
            int more = counts.lastEntry().getValue() - first;
            return first + Math.floorDiv(more * (time - counts.firstKey()), counts.lastKey() - counts.firstKey());
        }
        return 0;
    }

    private static void takeFrom(TreeMap<Integer, BigInteger> values, int line) {
        if (values.isEmpty()) {
            return;
        }
        BigInteger share = THOUSAND.multiply(BigInteger.valueOf(values.size()));
        BigInteger one = sum(values, line, 0).add(sum(values, line, 0)).divide(share);
        BigInteger two = sum(values, line, 16).add(sum(values, line, 16)).divide(share);
        values.replaceAll((time, value) -> value.subtract(
                one.multiply(BigInteger.valueOf(cosine(line * time)))
                        .add(two.multiply(BigInteger.valueOf(cosine(line * time - 16)))).divide(THOUSAND)));
    }

    private boolean isStar(int star) {
        return star >= 0 && star < stars.size();
    }

    private boolean isFilter(int filter) {
        return filter >= 0 && filter <= 2;
    }

    private boolean isClaim(int claim) {
        return claim >= 0 && claim < claims.size();
    }

    private static void index(boolean so) {
        if (!so) {
            throw new IndexOutOfBoundsException();
        }
    }

    private static void argument(boolean so) {
        if (!so) {
            throw new IllegalArgumentException();
        }
    }

    private static void state(boolean so) {
        if (!so) {
            throw new IllegalStateException();
        }
    }
}
