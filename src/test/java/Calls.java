/** Calls that are chosen by numbers: the same ones for the same seed. */
final class Calls {
    private long seed;

    Calls(long seed) {
        this.seed = seed;
    }

    /** A number from 0 up to the bound, not included. */
    int next(int bound) {
        seed = seed * 6364136223846793005L + 1442695040888963407L;
        return (int) ((seed >>> 33) % bound);
    }

    static Object answer(Approvalyard d, String name, int[] a) {
        switch (name) {
            case "version": return d.version(a[0], a[1]);
            case "need": return d.need(a[0], a[1], a[2], a[3], a[4]);
            case "replace": return d.replace(a[0], a[1]);
            case "request": return d.request(a[0], a[1], a[2]);
            case "resolve": return d.resolve(a[0]);
            case "limit": return d.limit(a[0], a[1]);
            case "leave": return d.leave(a[0], a[1], a[2]);
            case "approve": return d.approve(a[0], a[1]);
            case "release": d.release(a[0]); return 0;
            case "pass": return d.pass(a[0]);
            case "chosen": return d.chosen(a[0], a[1]);
            case "ofRequest": return d.ofRequest(a[0], a[1]);
            case "isCoveredAnew": return d.isCoveredAnew(a[0]);
            case "strain": return d.strain(a[0]);
            default: return d.entries();
        }
    }
}
