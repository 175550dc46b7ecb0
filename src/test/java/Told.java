/** What an object answers to the calls that tell, as one text: two such texts show whether something changed. */
final class Told {
    private static final int[] TIMES = {0, 16, 32, 100, 255};

    private final AsteroTone x;
    private final StringBuilder text = new StringBuilder();
    private int calls = 0;

    private Told(AsteroTone x) {
        this.x = x;
    }

    /** Far fewer than half of the 512 calls that an object is promised for, so that it can be asked twice. */
    static final int MOST_CALLS = 215;

    static String of(AsteroTone x) {
        Told told = new Told(x);
        told.all();
        if (told.calls > MOST_CALLS) {
            throw new AssertionError("too many calls: " + told.calls);
        }
        return told.text.toString();
    }

    /** Tells of what no call tells without changing it: the object is not the same behind that. */
    static String byChanging(AsteroTone x) {
        Told told = new Told(x);
        told.changes();
        return told.text + of(x);
    }

    private void all() {
        int stars = 0;
        while (stars < 6 && hasAge(stars)) {
            stars++;
        }
        boolean many = stars == 6;
        for (int star = 0; star < stars; star++) {
            star(star, many);
        }
        int claims = 0;
        while (claims < 40 && claim(claims, many)) {
            claims++;
        }
    }

    private boolean hasAge(int star) {
        return add("age", () -> x.ofStar(star, 0));
    }

    private void star(int star, boolean many) {
        add("frames", () -> x.frames(star));
        add("core", () -> x.ofStar(star, 5));
        add("power", () -> x.power(star, 1, 1));
        add("value", () -> x.value(star, 0, 0));
        if (many) {
            return;
        }
        for (int what = 1; what < 5; what++) {
            int of = what;
            add("of", () -> x.ofStar(star, of));
        }
        add("anew", () -> x.crossingAnew(star));
        add("tone", () -> x.tone(star, 2, 1, 1));
        for (int filter = 0; filter < 3; filter++) {
            int by = filter;
            for (int time : TIMES) {
                add("value", () -> x.value(star, by, time));
            }
            add("power", () -> x.power(star, by, 7));
            add("peak", () -> x.isPeak(star, by, 9) ? 1 : 0);
            add("through", () -> x.isSeenThrough(star, by, 1, 5) ? 1 : 0);
        }
        add("window", () -> x.window(star, 3));
    }

    private boolean claim(int claim, boolean many) {
        if (!add("stands", () -> x.ofClaim(claim, 4))) {
            return false;
        }
        add("cites", () -> x.ofClaim(claim, 5));
        add("sound", () -> x.isSound(claim) ? 1 : 0);
        for (int what = 0; what < 4 && !many; what++) {
            int of = what;
            add("of", () -> x.ofClaim(claim, of));
        }
        return true;
    }

    private void changes() {
        add("threshold", () -> x.threshold(1));
        for (int site = 0; site < 4; site++) {
            int by = site;
            add("mask", () -> x.mask(by, false) ? 1 : 0);
        }
        for (int site = 0; site < 4; site++) {
            int by = site;
            x.mask(by, true);
            add("frames of 0", () -> x.frames(0));
            add("frames of 1", () -> x.frames(1));
            x.mask(by, false);
        }
        add("shell", () -> x.shell(1, 1, 0));
        add("star", () -> x.star(7));
        for (int what = 0; what < 6; what++) {
            int of = what;
            add("the star that was built", () -> x.ofStar(2, of));
        }
        for (int star = 0; star < 2; star++) {
            int by = star;
            add("put back", () -> x.putBack(by));
            add("dropped", () -> x.drop(by, 0));
            add("dropped", () -> x.drop(by, 100));
            add("dropped", () -> x.drop(by, 255));
        }
        add("claim", () -> x.claimTone(0, 1, 1));
        add("audit", () -> x.audit());
    }

    private boolean add(String what, Due.Call call) {
        calls++;
        text.append(what).append(' ');
        boolean answered = true;
        try {
            text.append(call.make());
        } catch (RuntimeException thrown) {
            text.append(thrown.getClass().getName());
            answered = false;
        }
        text.append(';');
        return answered;
    }
}
