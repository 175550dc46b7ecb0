/** Promises 4 to 9 and 19 to 24: frames, masks, the threshold, lines taken out, and what is seen of them. */
public final class LightTest {
    private static final Due DUE = new Due("LightTest");
    private static final int[] HEAD = {1000, 995, 981, 957, 924, 882, 831, 773, 707, 634, 556, 471, 383, 290, 195, 98, 0};

    public static void main(String[] args) {
        frame();
        drop();
        mask();
        threshold();
        takeOut();
        takeOutRoundings();
        putBack();
        frames();
        valueOfFilters();
        drift();
        table();
        power();
        window();
        isPeak();
        isSeenThrough();
        linesAreTakenByFilter();
        DUE.close();
    }

    private static AsteroTone one() {
        AsteroTone x = new AsteroTone();
        x.shell(9, 99, 0);
        x.star(40);
        return x;
    }

    /** At these four times the lines' cosines and sines are all 0, 1000 or -1000. */
    private static AsteroTone square(int a, int b, int c, int d) {
        AsteroTone x = one();
        x.frame(0, 0, 0, a);
        x.frame(0, 1, 16, b);
        x.frame(0, 2, 32, c);
        x.frame(0, 3, 48, d);
        return x;
    }

    private static void frame() {
        AsteroTone x = one();
        x.shell(1, 1, 1);
        x.star(1);
        DUE.is("promise 4: a first frame", -1, x.frame(0, 0, 0, 0));
        DUE.is("promise 4: told again", 0, x.frame(0, 3, 0, 9999));
        DUE.is("promise 4: told again by the same site", 9999, x.frame(0, 3, 0, 17));
        DUE.is("promise 4: one frame of a time", 1, x.frames(0));
        DUE.is("promise 4: the last time", -1, x.frame(0, 0, 255, 8));
        DUE.is("promise 4: its value", 8, x.value(0, 0, 255));
        DUE.is("promise 4: of another star", -1, x.frame(1, 0, 0, 3));
        DUE.is("promise 4: the first star's", 17, x.value(0, 0, 0));
        DUE.index("promise 4: star 2", () -> x.frame(2, 0, 0, 0));
        DUE.index("promise 4: star -1", () -> x.frame(-1, 0, 0, 0));
        DUE.index("promise 4: site 4, before time", () -> x.frame(0, 4, 256, 0));
        DUE.index("promise 4: site -1, before count", () -> x.frame(0, -1, 0, -1));
        DUE.argument("promise 4: time 256", () -> x.frame(0, 0, 256, 0));
        DUE.argument("promise 4: time -1", () -> x.frame(0, 0, -1, 0));
        DUE.argument("promise 4: count -1", () -> x.frame(0, 0, 0, -1));
        DUE.argument("promise 4: count 10000", () -> x.frame(0, 0, 0, 10000));
        DUE.is("promise 4: calls that throw change nothing", 17, x.value(0, 0, 0));
        x.mask(3, true);
        DUE.is("promise 4: the frame before is told though its site is masked", 17, x.frame(0, 3, 0, 5));
        DUE.is("promise 4: a frame by a masked site", 0, x.value(0, 0, 0));
        DUE.is("promise 4: in place of it", 5, x.frame(0, 0, 0, 6));
        DUE.is("promise 4: by another site it is seen", 6, x.value(0, 0, 0));
    }

    private static void drop() {
        AsteroTone x = one();
        x.frame(0, 2, 7, 70);
        x.frame(0, 2, 255, 0);
        x.mask(2, true);
        DUE.is("promise 5: of a masked site", 70, x.drop(0, 7));
        DUE.state("promise 5: again", () -> x.drop(0, 7));
        DUE.state("promise 5: none of that time", () -> x.drop(0, 0));
        DUE.argument("promise 5: time 256", () -> x.drop(0, 256));
        DUE.argument("promise 5: time -1", () -> x.drop(0, -1));
        DUE.index("promise 5: star 1, before time", () -> x.drop(1, 256));
        DUE.index("promise 5: star -1", () -> x.drop(-1, 7));
        x.mask(2, false);
        DUE.is("promise 5: the other one is left", 1, x.frames(0));
        DUE.is("promise 5: a count of 0", 0, x.drop(0, 255));
        DUE.is("promise 5: none is left", 0, x.frames(0));
        DUE.is("promise 5: told anew", -1, x.frame(0, 2, 7, 71));
    }

    private static void mask() {
        AsteroTone x = square(1, 2, 3, 4);
        DUE.is("promise 6: it was not", false, x.mask(1, true));
        DUE.is("promise 6: it was", true, x.mask(1, true));
        DUE.is("promise 6: left out", 0, x.value(0, 0, 16));
        DUE.is("promise 6: the others are not", 3, x.frames(0));
        DUE.is("promise 6: another site was not", false, x.mask(2, false));
        DUE.is("promise 6: no more", true, x.mask(1, false));
        DUE.is("promise 6: seen again", 2, x.value(0, 0, 16));
        DUE.index("promise 6: site 4", () -> x.mask(4, true) ? 1 : 0);
        DUE.index("promise 6: site -1", () -> x.mask(-1, false) ? 1 : 0);
        x.mask(0, true);
        x.mask(3, true);
        DUE.is("promise 6: two are left", 2, x.frames(0));
        DUE.is("promise 6: the last site was", true, x.mask(3, false));
        DUE.is("promise 6: the mean is of those that are seen", 4 - 3, x.value(0, 1, 48));
    }

    private static void threshold() {
        AsteroTone x = square(2000, 1000, 0, 1000);
        DUE.is("promise 7: at first", 1000, x.threshold(1));
        DUE.argument("promise 7: 0", () -> x.threshold(0));
        DUE.argument("promise 7: -1", () -> x.threshold(-1));
        DUE.argument("promise 7: 1000000001", () -> x.threshold(1000000001));
        DUE.is("promise 7: calls that throw change nothing", 1, x.threshold(1000000000));
        DUE.is("promise 7: too low", false, x.isPeak(0, 1, 1));
        DUE.is("promise 7: the greatest", 1000000000, x.threshold(4000000));
        DUE.is("promise 7: just as much", true, x.isPeak(0, 1, 1));
        x.threshold(4000001);
        DUE.is("promise 7: 1 more", false, x.isPeak(0, 1, 1));
        AsteroTone low = square(1016, 1000, 984, 1000);
        DUE.is("promise 7: 1024 at the first threshold", true, low.isPeak(0, 1, 1));
        AsteroTone lower = square(1016, 1000, 985, 1000);
        DUE.is("promise 7: 961 at the first threshold", false, lower.isPeak(0, 1, 1));
    }

    private static void takeOut() {
        AsteroTone x = square(9, 4, 1, 8);
        DUE.argument("promise 8: line 0", () -> x.takeOut(0, 0));
        DUE.argument("promise 8: line 32", () -> x.takeOut(0, 32));
        DUE.argument("promise 8: line -1", () -> x.takeOut(0, -1));
        DUE.index("promise 8: star 1, before line", () -> x.takeOut(1, 0));
        DUE.index("promise 8: star -1", () -> x.takeOut(-1, 1));
        DUE.is("promise 8: calls that throw change nothing", 9, x.value(0, 0, 0));
        DUE.is("promise 8: line 1", 1, x.takeOut(0, 1));
        DUE.is("promise 8: 9 less 4", 5, x.value(0, 0, 0));
        DUE.is("promise 8: 4 and 2", 6, x.value(0, 0, 16));
        DUE.is("promise 8: 1 and 4", 5, x.value(0, 0, 32));
        DUE.is("promise 8: 8 less 2", 6, x.value(0, 0, 48));
        DUE.is("promise 8: nothing of the line is left", 0, x.power(0, 0, 1));
        DUE.is("promise 8: line 2 as it was", 4, x.power(0, 0, 2));
        DUE.is("promise 8: line 2 is next, and both its halves are the same there", 2, x.takeOut(0, 2));
        DUE.is("promise 8: 5 and 1", 6, x.value(0, 0, 0));
        DUE.is("promise 8: 6 less 1", 5, x.value(0, 0, 16));
        DUE.is("promise 8: the same line again", 3, x.takeOut(0, 2));
        DUE.is("promise 8: back where it was", 5, x.value(0, 0, 0));
        DUE.is("promise 8: line 31", 4, x.takeOut(0, 31));
        DUE.is("promise 8: a fifth", 5, x.takeOut(0, 1));
        DUE.is("promise 8: a sixth", 6, x.takeOut(0, 1));
        DUE.state("promise 8: a seventh", () -> x.takeOut(0, 1));
        DUE.argument("promise 8: a seventh of the line 0", () -> x.takeOut(0, 0));
        AsteroTone dark = one();
        DUE.is("promise 8: without frames", 1, dark.takeOut(0, 5));
        DUE.is("promise 20: nothing to take out of, value", 0, dark.value(0, 0, 5));
        DUE.is("promise 21: nothing to take out of, power", 0, dark.power(0, 2, 5));
        AsteroTone far = one();
        far.frame(0, 0, 200, 77);
        for (int i = 1; i <= 5; i++) {
            far.takeOut(0, 8);
        }
        DUE.is("promise 8: five times of one frame", -77, far.value(0, 0, 200));
        far.frame(0, 0, 201, 10);
        DUE.is("promise 8: a frame told later is one of them", true, far.value(0, 0, 201) != 10);
    }

    private static void takeOutRoundings() {
        AsteroTone odd = square(3, 0, 0, 0);
        odd.takeOut(0, 1);
        DUE.is("promise 8: twice 3000 by 4000 is 1", 2, odd.value(0, 0, 0));
        DUE.is("promise 8: and at half a turn", 1, odd.value(0, 0, 32));
        AsteroTone below = square(0, 0, 3, 0);
        below.takeOut(0, 1);
        DUE.is("promise 8: twice -3000 by 4000 is -1, cut toward 0", 1, below.value(0, 0, 0));
        DUE.is("promise 8: cut toward 0 at half a turn", 2, below.value(0, 0, 32));
        AsteroTone little = square(0, 0, 1, 0);
        little.takeOut(0, 1);
        DUE.is("promise 8: -0.5 is 0", 1, little.value(0, 0, 32));
        AsteroTone sine = square(0, 7, 0, 0);
        sine.takeOut(0, 1);
        DUE.is("promise 8: 3 by the sine", 4, sine.value(0, 0, 16));
        DUE.is("promise 8: 3 more by the sine", 3, sine.value(0, 0, 48));
        AsteroTone slant = one();
        slant.frame(0, 0, 0, 100);
        slant.frame(0, 0, 5, 0);
        slant.takeOut(0, 1);
        DUE.is("promise 8: 100 less 100", 0, slant.value(0, 0, 0));
        DUE.is("promise 8: less 88200 by 1000", -88, slant.value(0, 0, 5));
        AsteroTone both = one();
        both.frame(0, 0, 0, 0);
        both.frame(0, 0, 3, 101);
        both.takeOut(0, 1);
        // The sums are 101 times 957 and 290: 96657 and 29290, so 96 and 29 are taken out.
        DUE.is("promise 8: less 96", -96, both.value(0, 0, 0));
        DUE.is("promise 8: 96 times 957 and 29 times 290 together", 101 - 100282 / 1000, both.value(0, 0, 3));
    }

    private static void putBack() {
        AsteroTone x = square(9, 4, 1, 8);
        DUE.is("promise 9: none", 0, x.putBack(0));
        x.takeOut(0, 1);
        x.takeOut(0, 2);
        DUE.is("promise 9: two", 2, x.putBack(0));
        DUE.is("promise 9: as it was", 9, x.value(0, 0, 0));
        DUE.is("promise 9: none again", 0, x.putBack(0));
        DUE.is("promise 9: from the beginning", 1, x.takeOut(0, 3));
        DUE.index("promise 9: star 1", () -> x.putBack(1));
        DUE.index("promise 9: star -1", () -> x.putBack(-1));
    }

    private static void frames() {
        AsteroTone x = square(9, 4, 1, 8);
        DUE.is("promise 19: four", 4, x.frames(0));
        x.frame(0, 2, 33, 0);
        DUE.is("promise 19: a count of 0 is a frame", 5, x.frames(0));
        x.mask(2, true);
        DUE.is("promise 19: two left out", 3, x.frames(0));
        DUE.is("promise 19: none", 0, one().frames(0));
        DUE.index("promise 19: star 1", () -> x.frames(1));
        DUE.index("promise 19: star -1", () -> x.frames(-1));
        AsteroTone full = one();
        for (int time = 0; time < 256; time++) {
            full.frame(0, time & 3, time, 9999);
        }
        DUE.is("promise 19: all times", 256, full.frames(0));
        DUE.is("promise 19: the greatest power", 256L * 9999 * 256 * 9999, full.power(0, 0, 0));
        full.takeOut(0, 31);
        full.frame(0, 0, 128, 0);
        for (int filter = 0; filter < 3; filter++) {
            DUE.is("promise 20: the middle one of all times", true, full.value(0, filter, 128) < -9000 || filter == 0);
        }
        DUE.is("promise 22: the greatest window", 65536, full.window(0, 0));
    }

    private static void valueOfFilters() {
        AsteroTone x = square(9, 4, 1, 9);
        DUE.is("promise 20: the count", 4, x.value(0, 0, 16));
        DUE.is("promise 20: less the mean 5 of 23 by 4", -1, x.value(0, 1, 16));
        DUE.is("promise 20: the mean is the same for all", 4, x.value(0, 1, 48));
        DUE.is("promise 20: no frame, raw", 0, x.value(0, 0, 17));
        DUE.is("promise 20: no frame, less the mean", 0, x.value(0, 1, 17));
        DUE.is("promise 20: no frame, less the drift", 0, x.value(0, 2, 17));
        x.mask(0, true);
        DUE.is("promise 20: left out", 0, x.value(0, 1, 0));
        DUE.index("promise 20: filter 3, before time", () -> x.value(0, 3, 256));
        DUE.index("promise 20: filter -1", () -> x.value(0, -1, 0));
        DUE.index("promise 20: star 1", () -> x.value(1, 0, 0));
        DUE.index("promise 20: star -1", () -> x.value(-1, 0, 0));
        DUE.argument("promise 20: time 256", () -> x.value(0, 0, 256));
        DUE.argument("promise 20: time -1", () -> x.value(0, 0, -1));
        AsteroTone single = one();
        single.frame(0, 0, 9, 123);
        DUE.is("promise 20: one frame less its mean", 0, single.value(0, 1, 9));
        DUE.is("promise 20: the only frame", 123, single.value(0, 0, 9));
        single.mask(0, true);
        DUE.is("promise 20: the only frame, left out", 0, single.value(0, 0, 9));
        single.mask(0, false);
        single.drop(0, 9);
        DUE.is("promise 20: the only frame, dropped", 0, single.value(0, 0, 9));
        for (int filter = 0; filter < 3; filter++) {
            DUE.is("promise 20: no frames at all", 0, one().value(0, filter, 0));
        }
    }

    private static void drift() {
        AsteroTone x = one();
        x.frame(0, 0, 10, 100);
        DUE.is("promise 20: one frame less its count", 0, x.value(0, 2, 10));
        x.frame(0, 1, 11, 100);
        x.frame(0, 1, 11, 90);
        DUE.is("promise 20: the last one, 1 behind the first", 0, x.value(0, 2, 11));
        x.frame(0, 0, 13, 98);
        x.frame(0, 1, 11, 100);
        x.frame(0, 0, 12, 500);
        DUE.is("promise 20: the first one", 0, x.value(0, 2, 10));
        DUE.is("promise 20: -2 by 3 is -1, rounded down", 1, x.value(0, 2, 11));
        DUE.is("promise 20: -4 by 3 is -2, rounded down", 402, x.value(0, 2, 12));
        DUE.is("promise 20: the last one", 0, x.value(0, 2, 13));
        x.frame(0, 1, 250, 5000);
        x.mask(1, true);
        DUE.is("promise 20: the line is between those that are seen", 402, x.value(0, 2, 12));
        x.frame(0, 0, 13, 102);
        DUE.is("promise 20: 4 by 3 is 1", 399, x.value(0, 2, 12));
        x.takeOut(0, 1);
        DUE.is("promise 20: filtered first, then taken out", true, x.value(0, 2, 12) != 399);
    }

    private static int cosine(int number) {
        int at = number % 64;
        if (at >= 33) {
            at = 64 - at;
        }
        return at >= 17 ? -HEAD[32 - at] : HEAD[at];
    }

    private static void table() {
        for (int line = 0; line <= 31; line += 31) {
            for (int time = 1; time < 256; time++) {
                AsteroTone x = one();
                x.frame(0, 0, 0, 3000);
                x.frame(0, 0, time, 1000);
                long even = 3000 + cosine(line * time);
                long odd = cosine(line * time + 48);
                DUE.is("promise 21: table at " + line * time, even * even + odd * odd, x.power(0, 0, line));
            }
        }
        for (int time = 0; time < 64; time++) {
            AsteroTone x = one();
            x.frame(0, 0, time, 1000);
            x.frame(0, 0, 80, 3000);
            long even = cosine(time);
            long odd = 3000 + cosine(time + 48);
            DUE.is("promise 21: sine at " + time, even * even + odd * odd, x.power(0, 0, 1));
        }
    }

    private static void power() {
        AsteroTone x = square(9, 4, 1, 8);
        DUE.is("promise 21: line 0", 22 * 22, x.power(0, 0, 0));
        DUE.is("promise 21: line 1", 8 * 8 + 4 * 4, x.power(0, 0, 1));
        DUE.is("promise 21: line 2", 2 * 2, x.power(0, 0, 2));
        DUE.is("promise 21: line 31", 8 * 8 + 4 * 4, x.power(0, 0, 31));
        DUE.is("promise 21: line 0 less the mean", 2 * 2, x.power(0, 1, 0));
        DUE.is("promise 21: line 0 less the drift", (0 - 4 - 7 + 0) * (0 - 4 - 7 + 0), x.power(0, 2, 0));
        AsteroTone cut = one();
        cut.frame(0, 0, 27, 1);
        DUE.is("promise 21: cut toward 0", 0, cut.power(0, 0, 1));
        cut.frame(0, 0, 27, 9);
        DUE.is("promise 21: -7938 and 4239, cut", 7 * 7 + 4 * 4, cut.power(0, 0, 1));
        DUE.is("promise 21: no frames", 0, one().power(0, 1, 5));
        DUE.argument("promise 21: line 32", () -> x.power(0, 0, 32));
        DUE.argument("promise 21: line -1", () -> x.power(0, 0, -1));
        DUE.index("promise 21: filter 3, before line", () -> x.power(0, 3, 32));
        DUE.index("promise 21: filter -1", () -> x.power(0, -1, 0));
        DUE.index("promise 21: star 1", () -> x.power(1, 0, 0));
        DUE.index("promise 21: star -1", () -> x.power(-1, 0, 0));
    }

    private static void window() {
        AsteroTone x = square(9, 4, 1, 8);
        DUE.is("promise 22: line 0", 16, x.window(0, 0));
        DUE.is("promise 22: line 1", 0, x.window(0, 1));
        DUE.is("promise 22: line 28", 16, x.window(0, 28));
        DUE.is("promise 22: line 31", 0, x.window(0, 31));
        x.takeOut(0, 4);
        DUE.is("promise 22: nothing is taken out of it", 16, x.window(0, 0));
        x.mask(3, true);
        x.mask(2, true);
        DUE.is("promise 22: masked sites are left out", 1 + 1, x.window(0, 1));
        DUE.is("promise 22: no frames", 0, one().window(0, 0));
        DUE.argument("promise 22: line 32", () -> x.window(0, 32));
        DUE.argument("promise 22: line -1", () -> x.window(0, -1));
        DUE.index("promise 22: star 1, before line", () -> x.window(1, 32));
        DUE.index("promise 22: star -1", () -> x.window(-1, 0));
        DUE.is("promise 22: the values are as they were", 1, square(9, 4, 1, 8).value(0, 0, 32));
    }

    private static void isPeak() {
        AsteroTone odd = square(2000, 1000, 0, 1000);
        for (int line = -2; line <= 34; line++) {
            boolean due = line >= 1 && line <= 30 && line % 2 == 1;
            DUE.is("promise 23: line " + line, due, odd.isPeak(0, 1, line));
        }
        AsteroTone even = square(2000, 0, 2000, 0);
        for (int line = -2; line <= 34; line++) {
            boolean due = line >= 1 && line <= 30 && line % 4 == 2;
            DUE.is("promise 23: of two, line " + line, due, even.isPeak(0, 1, line));
        }
        DUE.is("promise 23: least line", false, odd.isPeak(0, 1, Integer.MIN_VALUE));
        DUE.is("promise 23: greatest line", false, odd.isPeak(0, 1, Integer.MAX_VALUE));
        AsteroTone flat = one();
        flat.frame(0, 0, 0, 5000);
        DUE.is("promise 23: no more than those beside it", false, flat.isPeak(0, 0, 5));
        AsteroTone fallen = one();
        fallen.frame(0, 0, 0, 9000);
        fallen.frame(0, 0, 1, 9000);
        DUE.is("promise 23: more than one beside it, less than the other", false, fallen.isPeak(0, 0, 5));
        AsteroTone risen = one();
        risen.frame(0, 0, 0, 9000);
        risen.frame(0, 0, 31, 9000);
        DUE.is("promise 23: of the filter raw", true, risen.isPeak(0, 0, 2));
        AsteroTone equal = one();
        equal.frame(0, 0, 0, 2);
        equal.frame(0, 0, 1, 2);
        equal.threshold(1);
        DUE.is("promise 23: as much as the one above", false, equal.isPeak(0, 0, 6));
        DUE.is("promise 23: as much as the one below", false, equal.isPeak(0, 0, 10));
        DUE.is("promise 23: 8 between 5 and 2", true, equal.isPeak(0, 0, 16));
        AsteroTone rising = one();
        rising.frame(0, 0, 0, 9000);
        rising.frame(0, 0, 1, 1000);
        DUE.is("promise 23: more than the one below, less than the one above", false, rising.isPeak(0, 1, 5));
        DUE.index("promise 23: filter 3", () -> odd.isPeak(0, 3, 1) ? 1 : 0);
        DUE.index("promise 23: filter -1, of a line that is none", () -> odd.isPeak(0, -1, 99) ? 1 : 0);
        DUE.index("promise 23: star 1", () -> odd.isPeak(1, 0, 1) ? 1 : 0);
        DUE.index("promise 23: star -1", () -> odd.isPeak(-1, 0, 1) ? 1 : 0);
        odd.takeOut(0, 1);
        DUE.is("promise 23: taken out", false, odd.isPeak(0, 1, 1));
    }

    private static void isSeenThrough() {
        AsteroTone x = one();
        x.frame(0, 0, 0, 3000);
        x.frame(0, 0, 1, 3000);
        DUE.is("promise 24: 4 times 1 is the square of 2", true, x.isSeenThrough(0, 0, 5, 3));
        DUE.is("promise 24: not of a lesser one", false, x.isSeenThrough(0, 0, 3, 5));
        DUE.is("promise 24: 16 between both", true, x.isSeenThrough(0, 0, 20, 4));
        DUE.is("promise 24: nothing of the window 17 away", false, x.isSeenThrough(0, 0, 20, 3));
        DUE.is("promise 24: of line 0", true, x.isSeenThrough(0, 0, 1, 0));
        DUE.is("promise 24: of line 31, nothing is less", false, x.isSeenThrough(0, 0, 0, 31));
        AsteroTone same = square(9, 4, 1, 8);
        DUE.is("promise 24: of just as much power", false, same.isSeenThrough(0, 0, 1, 5));
        AsteroTone three = one();
        three.frame(0, 0, 0, 3000);
        three.frame(0, 0, 1, 3000);
        three.frame(0, 0, 2, 3000);
        DUE.is("promise 24: 4 times 5 is at least 9", true, three.isSeenThrough(0, 0, 5, 1));
        DUE.is("promise 24: 4 times 2 is less than 9", false, three.isSeenThrough(0, 0, 9, 1));
        DUE.is("promise 24: no frames", false, one().isSeenThrough(0, 0, 1, 2));
        DUE.argument("promise 24: the same", () -> x.isSeenThrough(0, 0, 1, 1) ? 1 : 0);
        DUE.argument("promise 24: line 32", () -> x.isSeenThrough(0, 0, 32, 1) ? 1 : 0);
        DUE.argument("promise 24: line -1", () -> x.isSeenThrough(0, 0, -1, 1) ? 1 : 0);
        DUE.argument("promise 24: other 32", () -> x.isSeenThrough(0, 0, 1, 32) ? 1 : 0);
        DUE.argument("promise 24: other -1", () -> x.isSeenThrough(0, 0, 1, -1) ? 1 : 0);
        DUE.index("promise 24: filter 3, before line", () -> x.isSeenThrough(0, 3, 32, 1) ? 1 : 0);
        DUE.index("promise 24: filter -1", () -> x.isSeenThrough(0, -1, 0, 1) ? 1 : 0);
        DUE.index("promise 24: star 1", () -> x.isSeenThrough(1, 0, 1, 1) ? 1 : 0);
        DUE.index("promise 24: star -1", () -> x.isSeenThrough(-1, 0, 0, 1) ? 1 : 0);
    }

    private static void linesAreTakenByFilter() {
        AsteroTone x = square(9, 4, 1, 8);
        x.takeOut(0, 4);
        // Line 4 has the cosine 1000 at all four times: twice the mean of the values is taken out.
        DUE.is("promise 20: raw, less 11", -2, x.value(0, 0, 0));
        DUE.is("promise 20: less the mean 5, and 1", 3, x.value(0, 1, 0));
        DUE.is("promise 20: less the drift, and 5 more", 5, x.value(0, 2, 0));
        DUE.is("promise 21: raw, taken out", 22 * 22, x.power(0, 0, 0));
        DUE.is("promise 23: no peak of its own", false, x.isPeak(0, 0, 4));
    }
}
