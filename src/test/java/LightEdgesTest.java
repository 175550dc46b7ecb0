/** The edges that "Light" and the promises 4 to 9 and 19 to 24 name, a method for each sentence. */
public final class LightEdgesTest {
    private static final Due DUE = new Due("LightEdgesTest");
    private static final int RAW = AsteroTone.RAW;
    private static final int MEAN = AsteroTone.MEAN;
    private static final int DRIFT = AsteroTone.DRIFT;

    public static void main(String[] args) {
        timesCountsSites();
        inPlaceOfTheOneOfThatTime();
        aCountBeforeOrNone();
        takesAFrameAway();
        masksASiteOrNot();
        maskedSitesAreLeftOutOfAll();
        aStarWithoutAFrame();
        allFramesLeftOut();
        aStarWithAllFrames();
        meanRoundedDown();
        driftRoundedDown();
        driftFromFirstToLast();
        driftWithOneFrame();
        theTable();
        remaindersBy64();
        sineBelow0();
        powerCutToward0();
        linesFrom0To31();
        thresholdAtLeast();
        rangeOfTheThreshold();
        greaterThanThoseBeside();
        noPeakOutOf1To30();
        windowOfOnes();
        DUE.close();
    }

    private static void timesCountsSites() {
        AsteroTone x = Scene.one();
        for (int wrong : new int[] {Integer.MIN_VALUE, -1, 256, Integer.MAX_VALUE}) {
            DUE.argument("promise 4: time " + wrong, () -> x.frame(0, 0, wrong, 1));
            DUE.argument("promise 5: time " + wrong, () -> x.drop(0, wrong));
            DUE.argument("promise 20: time " + wrong, () -> x.value(0, RAW, wrong));
        }
        for (int wrong : new int[] {Integer.MIN_VALUE, -1, 10000, Integer.MAX_VALUE}) {
            DUE.argument("promise 4: count " + wrong, () -> x.frame(0, 0, 1, wrong));
        }
        for (int wrong : new int[] {Integer.MIN_VALUE, -1, 4, Integer.MAX_VALUE}) {
            DUE.index("promise 4: site " + wrong, () -> x.frame(0, wrong, 1, 1));
            DUE.index("promise 6: site " + wrong, () -> x.mask(wrong, true) ? 1 : 0);
        }
        DUE.is("promise 19: none of those", 0, x.frames(0));
        DUE.is("promise 4: time 0, site 0, count 0", -1, x.frame(0, 0, 0, 0));
        DUE.is("promise 4: time 255, site 3, count 9999", -1, x.frame(0, 3, 255, 9999));
        DUE.is("promise 19: both", 2, x.frames(0));
        DUE.is("promise 20: count 0", 0, x.value(0, RAW, 0));
        DUE.is("promise 20: count 9999", 9999, x.value(0, RAW, 255));
        DUE.is("promise 20: one before the last time", 0, x.value(0, RAW, 254));
        DUE.is("promise 5: the first time", 0, x.drop(0, 0));
        DUE.is("promise 5: the last time", 9999, x.drop(0, 255));
    }

    private static void inPlaceOfTheOneOfThatTime() {
        AsteroTone x = Scene.one();
        x.frame(0, 2, 7, 100);
        x.frame(0, 3, 8, 20);
        x.frame(0, 1, 7, 60);
        DUE.is("promise 4: two frames", 2, x.frames(0));
        DUE.is("promise 4: the later count", 60, x.value(0, RAW, 7));
        DUE.is("promise 4: the mean of both is 40", 20, x.value(0, MEAN, 7));
        x.mask(2, true);
        DUE.is("promise 4: it is no more by the site 2", 2, x.frames(0));
        x.mask(1, true);
        DUE.is("promise 4: but by the site 1", 1, x.frames(0));
    }

    private static void aCountBeforeOrNone() {
        AsteroTone x = Scene.one();
        Scene.star(x, 1, 1, 1, 1);
        DUE.is("promise 4: none before", AsteroTone.NONE, x.frame(0, 0, 9, 0));
        DUE.is("promise 4: 0 before", 0, x.frame(0, 0, 9, 9999));
        DUE.is("promise 4: 9999 before", 9999, x.frame(0, 0, 9, 5));
        DUE.is("promise 4: none of another time", AsteroTone.NONE, x.frame(0, 0, 10, 5));
        DUE.is("promise 4: none of another star", AsteroTone.NONE, x.frame(1, 0, 9, 5));
        x.drop(0, 9);
        DUE.is("promise 4: none since it was dropped", AsteroTone.NONE, x.frame(0, 0, 9, 5));
        x.mask(0, true);
        DUE.is("promise 4: the count is told though the site is masked", 5, x.frame(0, 0, 9, 6));
    }

    private static void takesAFrameAway() {
        AsteroTone x = Scene.seen(0, 30, 9, 0, 255, 60);
        x.mask(0, true);
        DUE.is("promise 5: a count of 0, by a masked site", 0, x.drop(0, 9));
        x.mask(0, false);
        DUE.state("promise 5: it is gone", () -> x.drop(0, 9));
        DUE.is("promise 5: two are left", 2, x.frames(0));
        DUE.is("promise 5: the mean is of both", 15, x.value(0, MEAN, 255));
        DUE.is("promise 5: nothing there", 0, x.value(0, MEAN, 9));
        DUE.argument("promise 5: out of range, and no frame", () -> x.drop(0, 256));
        DUE.is("promise 5: the first", 30, x.drop(0, 0));
        DUE.is("promise 5: the last", 60, x.drop(0, 255));
        DUE.state("promise 5: none at all", () -> x.drop(0, 0));
    }

    private static void masksASiteOrNot() {
        AsteroTone x = Scene.one();
        for (int site = 0; site < 4; site++) {
            x.frame(0, site, site, 1);
        }
        for (int site = 0; site < 4; site++) {
            DUE.is("promise 6: it was not", false, x.mask(site, true));
            DUE.is("promise 6: it was", true, x.mask(site, true));
            DUE.is("promise 6: one after the other", 3 - site, x.frames(0));
        }
        for (int site = 0; site < 4; site++) {
            DUE.is("promise 6: it was still", true, x.mask(site, false));
            DUE.is("promise 6: it was no more", false, x.mask(site, false));
            DUE.is("promise 6: back one after the other", site + 1, x.frames(0));
        }
    }

    /** "Frames by a masked site are left out", of each filter, sum, window and line that is taken out. */
    private static void maskedSitesAreLeftOutOfAll() {
        AsteroTone x = Scene.odd();
        for (int i = 0; i < 8; i++) {
            x.frame(0, 3, i == 0 ? 1 : i == 7 ? 255 : 16 * i + 1, 9000 - 77 * i);
        }
        x.mask(3, true);
        x.takeOut(0, 2);
        AsteroTone y = Scene.odd();
        y.takeOut(0, 2);
        DUE.is("promise 19: four", 4, x.frames(0));
        for (int filter = 0; filter < 3; filter++) {
            for (int line = 0; line < 32; line++) {
                DUE.is("promise 21: line " + line, y.power(0, filter, line), x.power(0, filter, line));
            }
            for (int time = 0; time < 64; time += 16) {
                DUE.is("promise 20: time " + time, y.value(0, filter, time), x.value(0, filter, time));
            }
            DUE.is("promise 20: left out", 0, x.value(0, filter, 255));
            boolean due = y.isSeenThrough(0, filter, 4, 16);
            DUE.is("promise 24: line 4 through 16", due, x.isSeenThrough(0, filter, 4, 16));
        }
        DUE.is("promise 22: of four frames", 16, x.window(0, 4));
        x.mask(3, false);
        DUE.is("promise 19: twelve", 12, x.frames(0));
        DUE.is("promise 20: the raw count of 9000 is less by a share of the line", true, x.value(0, RAW, 1) > 5000);
    }

    private static void aStarWithoutAFrame() {
        AsteroTone x = Scene.one();
        x.threshold(1);
        dark("without a frame", x);
        x.takeOut(0, 1);
        x.takeOut(0, 31);
        dark("without a frame, two lines taken out", x);
        DUE.is("promise 9: both put back", 2, x.putBack(0));
    }

    private static void allFramesLeftOut() {
        AsteroTone x = Scene.odd();
        x.threshold(1);
        x.takeOut(0, 2);
        for (int site = 0; site < 3; site++) {
            x.mask(site, true);
        }
        dark("all left out", x);
        x.mask(0, false);
        DUE.is("promise 19: one is back", 1, x.frames(0));
        DUE.is("promise 20: twice 2000 is taken out of it", -2000, x.value(0, RAW, 0));
    }

    private static void dark(String what, AsteroTone x) {
        DUE.is("promise 19: " + what, 0, x.frames(0));
        for (int filter = 0; filter < 3; filter++) {
            DUE.is("promise 20: " + what + ", time 0", 0, x.value(0, filter, 0));
            DUE.is("promise 20: " + what + ", time 255", 0, x.value(0, filter, 255));
            DUE.is("promise 21: " + what + ", line 0", 0, x.power(0, filter, 0));
            DUE.is("promise 21: " + what + ", line 31", 0, x.power(0, filter, 31));
            DUE.is("promise 23: " + what, false, x.isPeak(0, filter, 1));
            DUE.is("promise 24: " + what + ", none is greater", false, x.isSeenThrough(0, filter, 0, 31));
            int by = filter;
            DUE.state("promise 10: " + what, () -> x.claimTone(0, by, 1));
        }
        DUE.is("promise 22: " + what + ", line 0", 0, x.window(0, 0));
        DUE.is("promise 22: " + what + ", line 31", 0, x.window(0, 31));
    }

    private static void aStarWithAllFrames() {
        AsteroTone x = Scene.one();
        for (int time = 0; time < 256; time++) {
            x.frame(0, time % 4, time, 9999);
        }
        DUE.is("promise 19: all times", 256, x.frames(0));
        DUE.is("promise 4: one of them again", 9999, x.frame(0, 0, 128, 9999));
        DUE.is("promise 19: still all times", 256, x.frames(0));
        DUE.is("promise 21: raw, line 0", 256L * 9999 * 256 * 9999, x.power(0, RAW, 0));
        DUE.is("promise 21: raw, line 31, as each turn sums up to 0", 0, x.power(0, RAW, 31));
        DUE.is("promise 21: less the mean, line 0", 0, x.power(0, MEAN, 0));
        DUE.is("promise 20: less the drift, the middle", 0, x.value(0, DRIFT, 128));
        DUE.is("promise 22: line 0", 65536, x.window(0, 0));
        DUE.is("promise 22: line 1", 0, x.window(0, 1));
        DUE.is("promise 24: nothing of the window 31 away", false, x.isSeenThrough(0, RAW, 31, 0));
    }

    private static void meanRoundedDown() {
        DUE.is("promise 20: 1 by 2 is 0", 1, Scene.seen(0, 1, 255, 0).value(0, MEAN, 0));
        DUE.is("promise 20: 1 by 2 is 0, the other one", 0, Scene.seen(0, 1, 255, 0).value(0, MEAN, 255));
        DUE.is("promise 20: 2 by 2 is 1", -1, Scene.seen(0, 2, 255, 0).value(0, MEAN, 255));
        DUE.is("promise 20: 19997 by 2 is 9998", 1, Scene.seen(0, 9999, 1, 9998).value(0, MEAN, 0));
        DUE.is("promise 20: 29 by 10 is 2", -2, Scene.seen(0, 29, 1, 0, 2, 0, 3, 0, 4, 0, 5, 0, 6, 0, 7, 0, 8, 0, 9, 0)
                .value(0, MEAN, 9));
        DUE.is("promise 20: one frame", 0, Scene.seen(7, 9999).value(0, MEAN, 7));
    }

    /** "divided by the time between both, rounded down", to the lesser number also below 0. */
    private static void driftRoundedDown() {
        DUE.is("promise 20: 1 by 2 is 0", 50, Scene.seen(0, 10, 1, 60, 2, 11).value(0, DRIFT, 1));
        DUE.is("promise 20: -1 by 2 is -1", 51, Scene.seen(0, 10, 1, 60, 2, 9).value(0, DRIFT, 1));
        DUE.is("promise 20: 2 by 2 is 1", 49, Scene.seen(0, 10, 1, 60, 2, 12).value(0, DRIFT, 1));
        DUE.is("promise 20: -2 by 2 is -1", 51, Scene.seen(0, 10, 1, 60, 2, 8).value(0, DRIFT, 1));
        DUE.is("promise 20: 3 by 2 is 1", 49, Scene.seen(0, 10, 1, 60, 2, 13).value(0, DRIFT, 1));
        DUE.is("promise 20: -3 by 2 is -2", 52, Scene.seen(0, 10, 1, 60, 2, 7).value(0, DRIFT, 1));
        DUE.is("promise 20: 50 by 1", 0, Scene.seen(254, 10, 255, 60).value(0, DRIFT, 255));
        DUE.is("promise 20: -50 by 1", 0, Scene.seen(0, 60, 1, 10).value(0, DRIFT, 1));
        DUE.is("promise 20: -1 by 255 is -1", 1, Scene.seen(0, 1, 1, 1, 255, 0).value(0, DRIFT, 1));
        DUE.is("promise 20: 9999 times 254 by 255 is 9959.7", -9959, Scene.seen(0, 0, 254, 0, 255, 9999)
                .value(0, DRIFT, 254));
        DUE.is("promise 20: -9999 by 255 is -39.2", -9959, Scene.seen(0, 9999, 1, 0, 255, 0).value(0, DRIFT, 1));
    }

    private static void driftFromFirstToLast() {
        AsteroTone x = Scene.one();
        x.frame(0, 0, 200, 700);
        x.frame(0, 0, 150, 9999);
        x.frame(0, 0, 100, 500);
        DUE.is("promise 20: the first one, told last", 0, x.value(0, DRIFT, 100));
        DUE.is("promise 20: the last one, told first", 0, x.value(0, DRIFT, 200));
        DUE.is("promise 20: half between", 9999 - 600, x.value(0, DRIFT, 150));
        x.frame(0, 1, 0, 9000);
        DUE.is("promise 20: a new first one", 700 - 700, x.value(0, DRIFT, 200));
        DUE.is("promise 20: -8300 by 2 from 9000", 500 - 4850, x.value(0, DRIFT, 100));
        x.mask(1, true);
        DUE.is("promise 20: it is left out", 9999 - 600, x.value(0, DRIFT, 150));
        x.frame(0, 1, 200, 700);
        DUE.is("promise 20: the last one is left out too", 0, x.value(0, DRIFT, 150));
        DUE.is("promise 20: two frames, the first one", 0, x.value(0, DRIFT, 100));
    }

    private static void driftWithOneFrame() {
        for (int time : new int[] {0, 1, 254, 255}) {
            AsteroTone x = Scene.seen(time, 9999);
            DUE.is("promise 20: one frame at " + time, 0, x.value(0, DRIFT, time));
            DUE.is("promise 21: one frame at " + time, 0, x.power(0, DRIFT, 0));
            DUE.is("promise 23: one frame at " + time, false, x.isPeak(0, DRIFT, 1));
            DUE.is("promise 20: its raw count", 9999, x.value(0, RAW, time));
        }
        AsteroTone x = Scene.seen(0, 9999, 9, 5);
        x.frame(0, 1, 255, 1);
        x.drop(0, 0);
        x.mask(1, true);
        DUE.is("promise 20: one frame is left", 0, x.value(0, DRIFT, 9));
    }

    /** A frame of 3000 at the time 0 tells the sign of the cosine, one at the time 16 that of the sine. */
    private static void theTable() {
        int[] cosines = {
            1000, 995, 981, 957, 924, 882, 831, 773, 707, 634, 556, 471, 383, 290, 195, 98,
            0, -98, -195, -290, -383, -471, -556, -634, -707, -773, -831, -882, -924, -957, -981, -995,
            -1000, -995, -981, -957, -924, -882, -831, -773, -707, -634, -556, -471, -383, -290, -195, -98,
            0, 98, 195, 290, 383, 471, 556, 634, 707, 773, 831, 882, 924, 957, 981, 995};
        for (int number = 0; number < 64; number++) {
            long even = cosines[number];
            long odd = cosines[(number + 48) % 64];
            DUE.is("promise 21: cosine of " + number, (3000 + even) * (3000 + even) + odd * odd,
                    Scene.seen(64, 3000, number, 1000).power(0, RAW, 1));
            DUE.is("promise 21: sine of " + number, even * even + (3000 + odd) * (3000 + odd),
                    Scene.seen(80, 3000, number, 1000).power(0, RAW, 1));
        }
    }

    private static void remaindersBy64() {
        DUE.is("promise 21: 63", 3995 * 3995 + 98 * 98, Scene.seen(0, 3000, 63, 1000).power(0, RAW, 1));
        DUE.is("promise 21: 64 is 0", 4000 * 4000, Scene.seen(0, 3000, 64, 1000).power(0, RAW, 1));
        DUE.is("promise 21: 65 is 1", 3995 * 3995 + 98 * 98, Scene.seen(0, 3000, 65, 1000).power(0, RAW, 1));
        DUE.is("promise 21: 255 is 63", 3995 * 3995 + 98 * 98, Scene.seen(0, 3000, 255, 1000).power(0, RAW, 1));
        DUE.is("promise 21: 31 times 255 is 33", 2005 * 2005 + 98 * 98,
                Scene.seen(0, 3000, 255, 1000).power(0, RAW, 31));
        DUE.is("promise 21: 31 times 64 is 0", 4000 * 4000, Scene.seen(0, 3000, 64, 1000).power(0, RAW, 31));
        DUE.is("promise 21: 2 times 32 is 0", 4000 * 4000, Scene.seen(0, 3000, 32, 1000).power(0, RAW, 2));
        DUE.is("promise 22: 31 times 64 is 0", 4, Scene.seen(0, 3000, 64, 1000).window(0, 31));
        AsteroTone x = Scene.seen(0, 3000, 255, 1000);
        x.takeOut(0, 31);
        // The sums are 2005000 and -98000: 2005 and -98 are taken out, at the time 255 by -995 and -98.
        DUE.is("promise 20: taken out at the number 0", 3000 - 2005, x.value(0, RAW, 0));
        DUE.is("promise 20: taken out at the number 7905", 1000 + 1985, x.value(0, RAW, 255));
    }

    /** "the sine that for the number less 16", which is below 0 for 0 to 15. */
    private static void sineBelow0() {
        DUE.is("promise 21: 0 less 16 is 48", 3000 * 3000 + 1000 * 1000,
                Scene.seen(0, 1000, 16, 3000).power(0, RAW, 1));
        DUE.is("promise 21: 1 less 16 is 49", 995 * 995 + 3098 * 3098, Scene.seen(1, 1000, 16, 3000).power(0, RAW, 1));
        DUE.is("promise 21: 15 less 16 is 63", 98 * 98 + 3995 * 3995, Scene.seen(15, 1000, 16, 3000).power(0, RAW, 1));
        DUE.is("promise 21: 16 less 16", 4000 * 4000, Scene.seen(80, 1000, 16, 3000).power(0, RAW, 1));
        DUE.is("promise 21: line 0 has the sine of 0 alone", 4000 * 4000,
                Scene.seen(1, 1000, 16, 3000).power(0, RAW, 0));
    }

    /** "each divided by 1000 ahead", cut toward 0: -1990 is -1 then, and -985 is 0. */
    private static void powerCutToward0() {
        DUE.is("promise 21: 995 and 98", 0, Scene.seen(1, 1).power(0, RAW, 1));
        DUE.is("promise 21: 1000 and 0", 1, Scene.seen(0, 1).power(0, RAW, 1));
        DUE.is("promise 21: 1990 and 196", 1, Scene.seen(1, 2).power(0, RAW, 1));
        DUE.is("promise 21: -995 and 98", 0, Scene.seen(31, 1).power(0, RAW, 1));
        DUE.is("promise 21: -1000 and 0", 1, Scene.seen(32, 1).power(0, RAW, 1));
        DUE.is("promise 21: -1990 and 196", 1, Scene.seen(31, 2).power(0, RAW, 1));
        DUE.is("promise 21: -98 and -995", 0, Scene.seen(47, 1).power(0, RAW, 1));
        DUE.is("promise 21: 0 and -1000", 1, Scene.seen(48, 1).power(0, RAW, 1));
        DUE.is("promise 21: -196 and -1990", 1, Scene.seen(47, 2).power(0, RAW, 1));
        DUE.is("promise 21: -2121 and -2121", 8, Scene.seen(40, 3).power(0, RAW, 1));
        DUE.is("promise 21: divided when all are summed up, 2985", 4, Scene.seen(1, 1, 65, 1, 129, 1).power(0, RAW, 1));
    }

    private static void linesFrom0To31() {
        AsteroTone x = Scene.seen(0, 3000, 1, 1000);
        for (int wrong : new int[] {Integer.MIN_VALUE, -1, 32, Integer.MAX_VALUE}) {
            DUE.argument("promise 21: line " + wrong, () -> x.power(0, RAW, wrong));
            DUE.argument("promise 22: line " + wrong, () -> x.window(0, wrong));
            DUE.argument("promise 24: line " + wrong, () -> x.isSeenThrough(0, RAW, wrong, 1) ? 1 : 0);
            DUE.argument("promise 24: other " + wrong, () -> x.isSeenThrough(0, RAW, 1, wrong) ? 1 : 0);
        }
        DUE.is("promise 21: line 0", 4000 * 4000, x.power(0, RAW, 0));
        DUE.is("promise 21: line 31", 2005 * 2005 + 98 * 98, x.power(0, RAW, 31));
        DUE.is("promise 22: line 0", 4, x.window(0, 0));
        DUE.is("promise 22: line 31", 0, x.window(0, 31));
        DUE.is("promise 24: line 31 and line 0", false, x.isSeenThrough(0, RAW, 31, 0));
        DUE.is("promise 24: line 0 and line 31", false, x.isSeenThrough(0, RAW, 0, 31));
    }

    /** "if its power is at least the threshold". */
    private static void thresholdAtLeast() {
        AsteroTone x = Scene.odd();
        x.threshold(3999999);
        DUE.is("promise 23: 1 more", true, x.isPeak(0, MEAN, 1));
        x.threshold(4000000);
        DUE.is("promise 23: just as much", true, x.isPeak(0, MEAN, 1));
        x.threshold(4000001);
        DUE.is("promise 23: 1 less", false, x.isPeak(0, MEAN, 1));
        DUE.state("promise 10: 1 less", () -> x.claimTone(0, MEAN, 1));
        AsteroTone first = Scene.one();
        // Less the mean of 1000: 15, 5, -15 and -5; 30 and 10 are summed up, and 30 times 30 and 10 times 10.
        Scene.light(first, 0, 1015, 1005, 985, 995);
        DUE.is("promise 21: 1000", 1000, first.power(0, MEAN, 1));
        DUE.is("promise 23: just 1000 at first", true, first.isPeak(0, MEAN, 1));
        first.threshold(1001);
        DUE.is("promise 23: 1001 since then", false, first.isPeak(0, MEAN, 1));
    }

    /** Sixteen frames: less the mean of 4000 the lines of 1, 5, 9 have sums of 30000000 and 10000000. */
    private static void rangeOfTheThreshold() {
        AsteroTone x = Scene.one();
        for (int turn = 0; turn < 256; turn += 64) {
            x.frame(0, 0, turn, 7750);
            x.frame(0, 0, turn + 16, 5250);
            x.frame(0, 0, turn + 32, 250);
            x.frame(0, 0, turn + 48, 2750);
        }
        for (int wrong : new int[] {Integer.MIN_VALUE, -1, 0, 1000000001, Integer.MAX_VALUE}) {
            DUE.argument("promise 7: " + wrong, () -> x.threshold(wrong));
        }
        DUE.is("promise 7: the greatest", 1000, x.threshold(1000000000));
        DUE.is("promise 21: just as much", 1000000000, x.power(0, MEAN, 1));
        DUE.is("promise 23: just as much", true, x.isPeak(0, MEAN, 1));
        x.frame(0, 0, 32, 251);
        DUE.is("promise 21: 29999 and 10000", 29999L * 29999 + 100000000, x.power(0, MEAN, 1));
        DUE.is("promise 23: a little less", false, x.isPeak(0, MEAN, 1));
        DUE.is("promise 7: the least", 1000000000, x.threshold(1));
        DUE.is("promise 7: it was", 1, x.threshold(1));
        AsteroTone little = Scene.one();
        little.threshold(1);
        little.frame(0, 0, 0, 1);
        DUE.is("promise 23: 1, but of all lines", false, little.isPeak(0, RAW, 1));
        little.frame(0, 0, 32, 1);
        DUE.is("promise 21: 4", 4, little.power(0, RAW, 2));
        DUE.is("promise 23: 4 between 0 and 0", true, little.isPeak(0, RAW, 2));
        DUE.is("promise 23: 0 is less than 1", false, little.isPeak(0, RAW, 1));
    }

    /** Two frames of 2, one behind the other: line 6 is as great as the one above it, line 10 as the one below. */
    private static void greaterThanThoseBeside() {
        AsteroTone same = Scene.seen(0, 5000);
        for (int line = 1; line <= 30; line++) {
            DUE.is("promise 23: as great as both, line " + line, false, same.isPeak(0, RAW, line));
        }
        int[] powers = {16, 9, 9, 9, 9, 9, 10, 10, 10, 10, 10, 5, 5, 5, 5, 5,
            8, 2, 2, 2, 2, 2, 1, 1, 1, 1, 1, 0, 0, 0, 0, 0};
        AsteroTone x = Scene.seen(0, 2, 1, 2);
        x.threshold(1);
        for (int line = 0; line < 32; line++) {
            DUE.is("promise 21: of two, line " + line, powers[line], x.power(0, RAW, line));
            DUE.is("promise 23: of two, line " + line, line == 16, x.isPeak(0, RAW, line));
        }
        AsteroTone falling = Scene.seen(0, 9000, 1, 9000);
        DUE.is("promise 23: falling, line 1", false, falling.isPeak(0, RAW, 1));
        DUE.is("promise 23: falling, line 30", false, falling.isPeak(0, RAW, 30));
        AsteroTone rising = Scene.seen(0, 9000, 33, 9000);
        DUE.is("promise 23: rising and falling, line 1", false, rising.isPeak(0, RAW, 1));
        DUE.is("promise 23: rising and falling, line 2", true, rising.isPeak(0, RAW, 2));
    }

    private static void noPeakOutOf1To30() {
        AsteroTone odd = Scene.odd();
        AsteroTone even = Scene.even();
        DUE.is("promise 23: line 1", true, odd.isPeak(0, MEAN, 1));
        DUE.is("promise 23: line 29", true, odd.isPeak(0, MEAN, 29));
        DUE.is("promise 23: line 30", true, even.isPeak(0, MEAN, 30));
        DUE.is("promise 23: line 31, though it has power", false, odd.isPeak(0, MEAN, 31));
        DUE.is("promise 21: line 31", 4000000, odd.power(0, MEAN, 31));
        DUE.is("promise 21: line 0, more than line 1", 16000000, odd.power(0, RAW, 0));
        DUE.is("promise 23: line 0, though it is more than line 1", false, odd.isPeak(0, RAW, 0));
        for (int line : new int[] {Integer.MIN_VALUE, -63, -1, 0, 31, 32, 33, 65, Integer.MAX_VALUE}) {
            DUE.is("promise 23: line " + line, false, odd.isPeak(0, MEAN, line));
            DUE.state("promise 10: line " + line, () -> odd.claimTone(0, MEAN, line));
        }
    }

    /** "The window has 1 as the value of each frame", and its power is cut toward 0 like any other. */
    private static void windowOfOnes() {
        DUE.is("promise 22: one frame, line 0", 1, Scene.seen(1, 0).window(0, 0));
        DUE.is("promise 22: one frame, 995 and 98", 0, Scene.seen(1, 9999).window(0, 1));
        DUE.is("promise 22: one frame, 0 and 1000", 1, Scene.seen(16, 9999).window(0, 1));
        DUE.is("promise 22: -1976 and 293", 1, Scene.seen(30, 0, 31, 9999).window(0, 1));
        DUE.is("promise 22: -293 and -1976", 1, Scene.seen(46, 0, 47, 9999).window(0, 1));
        AsteroTone x = Scene.odd();
        for (int line = 0; line < 32; line++) {
            DUE.is("promise 22: line " + line, line % 4 == 0 ? 16 : 0, x.window(0, line));
        }
    }
}
