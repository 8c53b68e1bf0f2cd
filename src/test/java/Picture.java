/** What an object tells without being changed, as one text. It takes many of its 512 calls. */
final class Picture {
    private Picture() {
    }

    static String of(HayThieves x) {
        StringBuilder text = new StringBuilder("count");
        for (int what = 0; what <= 12; what++) {
            text.append(' ').append(x.count(what));
        }
        for (int lad = 0; lad < x.count(1); lad++) {
            text.append(" lad");
            for (int what = 0; what <= 8; what++) {
                text.append(' ').append(x.lad(lad, what));
            }
            text.append(" cart");
            for (int place = 0; place < x.lad(lad, 2); place++) {
                text.append(' ').append(x.cart(lad, place));
            }
            text.append(" victim ").append(x.victim(lad));
        }
        for (int load = 0; load < x.count(2); load++) {
            text.append(" load");
            for (int what = 0; what <= 6; what++) {
                text.append(' ').append(x.load(load, what));
            }
            text.append(" until ").append(x.until(load));
        }
        return text.append(' ').append(inShort(x)).toString();
    }

    static String inShort(HayThieves x) {
        StringBuilder text = new StringBuilder("digest ").append(x.digest());
        // The sleepers of the next minutes show the rows of idle minutes.
        for (int minutes = 1; minutes <= 3; minutes++) {
            text.append(" sleep ").append(x.foresee(minutes, 6));
        }
        return text.toString();
    }
}
