/** All that can be asked about an object without changing it, but for fault(), in one text. */
final class Seen {
    private Seen() {
    }

    static String of(DunceSee x) {
        StringBuilder seen = new StringBuilder();
        for (int what = 0; what <= 4; what++) {
            seen.append(" many").append(what).append('=').append(x.many(what));
        }
        seen.append(" trace=").append(x.trace());
        for (int p = 0; p < x.many(0); p++) {
            pupil(seen, x, p);
        }
        for (int d = 0; d < x.many(1); d++) {
            seen.append(" day").append(d).append('=').append(x.hard(d)).append('/')
                .append(x.stand(d)).append('/').append(x.hards(d));
        }
        for (int k = 0; k < 4; k++) {
            row(seen, x, k);
        }
        return seen.toString();
    }

    private static void pupil(StringBuilder seen, DunceSee x, int p) {
        seen.append(" pupil").append(p).append('=');
        for (int what = 0; what <= 3; what++) {
            seen.append(x.ofPupil(p, what)).append('/');
        }
        seen.append(x.wits(p)).append('/').append(x.kinds(p));
    }

    /** The lane is the one of which it is no CAST to take it, the row ends where INDEX is met. */
    private static void row(StringBuilder seen, DunceSee x, int k) {
        seen.append(" sheet").append(k).append('=');
        for (int lane = 0; lane < 3; lane++) {
            long cell = x.cell(k, 0, lane);
            int fault = x.fault();
            if (fault == 1) {
                seen.append("nothing");
                return;
            }
            if (fault == 2) {
                continue;
            }
            seen.append("lane").append(lane);
            for (int i = 0; i < 61 && x.fault() == 0; i++) {
                seen.append(',').append(cell);
                cell = x.cell(k, i + 1, lane);
            }
        }
    }
}
