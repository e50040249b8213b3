/** A run as long as a telling may be: two tales of nine parts, each told of once in nine nights; some 250 calls. */
final class Long99 {
    private Long99() {
    }

    /** In night 99, an hour left: one tale is open, with six parts left. */
    static DawnTales night99() {
        DawnTales x = Check.told("n 2 1 1 1 1 1 1 1;m 9;t 9 9;t 9 9;");
        for (int night = 0; night < 99; night++) {
            int hours = night % 8 == 0 ? 2 : 1;
            if (night % 9 == 0) {
                hours = night == 0 ? x.begins(0) : x.tells();
            }
            if (night == 72) {
                hours = x.begins(1);
            }
            for (; hours > 0; hours--) {
                x.silent();
            }
            x.dawn();
        }
        return x;
    }
}
