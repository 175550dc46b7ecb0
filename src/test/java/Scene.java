/** Objects that several tests begin with; each is made of far fewer calls than the 512 that are promised. */
final class Scene {
    private Scene() {
    }

    /** One star of one shell, of the age 40, without frames: its large spacing is 111111. */
    static AsteroTone one() {
        AsteroTone x = new AsteroTone();
        x.shell(9, 99, 0);
        x.star(40);
        return x;
    }

    /** A star of shells told as thick, speed and spin, one behind the other. */
    static int star(AsteroTone x, int age, int... shells) {
        for (int i = 0; i < shells.length; i += 3) {
            x.shell(shells[i], shells[i + 1], shells[i + 2]);
        }
        return x.star(age);
    }

    /** Frames at quarters of a turn, where the cosine and the sine of line 1 are 0, 1000 or -1000. */
    static void light(AsteroTone x, int star, int a, int b, int c, int d) {
        x.frame(star, 0, 0, a);
        x.frame(star, 1, 16, b);
        x.frame(star, 2, 32, c);
        x.frame(star, 1, 48, d);
    }

    /** Less the mean, 1000, 0, -1000 and 0: each odd line has the power 4000000, each even one 0. */
    static AsteroTone odd() {
        AsteroTone x = one();
        light(x, 0, 2000, 1000, 0, 1000);
        return x;
    }

    /** Less the mean, 1000, -1000, 1000 and -1000: the lines 2, 6, 10 to 30 have the power 16000000, others 0. */
    static AsteroTone even() {
        AsteroTone x = one();
        light(x, 0, 2000, 0, 2000, 0);
        return x;
    }

    /** One star whose frames are told as time and count, one behind the other, all by site 0. */
    static AsteroTone seen(int... frames) {
        AsteroTone x = one();
        for (int i = 0; i < frames.length; i += 2) {
            x.frame(0, 0, frames[i], frames[i + 1]);
        }
        return x;
    }

    /** Two stars and one that is built, a masked site, claims of all kinds, two withdrawn, one that is unsound. */
    static AsteroTone some() {
        AsteroTone x = one();
        star(x, 20, 10, 80, 9, 33, 71, 2, 7, 90, 0);
        x.shell(5, 50, 5);
        x.shell(6, 40, 6);
        light(x, 0, 2000, 1000, 0, 1000);
        light(x, 1, 2000, 1100, 0, 700);
        x.frame(0, 3, 100, 777);
        x.frame(1, 3, 255, 9999);
        x.mask(3, true);
        x.takeOut(1, 2);
        x.claimTone(0, AsteroTone.MEAN, 1);
        x.claimTone(0, AsteroTone.MEAN, 7);
        x.claimTone(1, AsteroTone.MEAN, 9);
        x.claimAge(1, 0);
        x.claimPlanet(2);
        x.claimTone(0, AsteroTone.MEAN, 11);
        x.claimPlanet(5);
        x.cite(4, 0);
        x.withdraw(5);
        x.frame(1, 0, 0, 2500);
        x.threshold(900);
        return x;
    }

    /** Six stars and eight shells of a seventh, six lines taken out of the star 0, forty claims. */
    static AsteroTone full() {
        AsteroTone x = new AsteroTone();
        for (int star = 0; star < 6; star++) {
            star(x, 10 * star, 9, 90 + star, star);
        }
        for (int shell = 1; shell <= 8; shell++) {
            x.shell(shell, 10 * shell, 1);
        }
        light(x, 0, 2000, 1000, 0, 1000);
        light(x, 5, 2000, 1000, 0, 1000);
        for (int line = 1; line <= 6; line++) {
            x.takeOut(0, 5 * line);
        }
        for (int claim = 0; claim < 37; claim++) {
            x.claimTone(5, AsteroTone.MEAN, 1 + 2 * (claim % 3));
        }
        x.claimAge(0, 1);
        x.claimPlanet(2);
        x.claimPlanet(36);
        x.withdraw(36);
        return x;
    }
}
