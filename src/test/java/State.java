/** All that a book tells without being changed, but which desks are to fail: nothing tells that. */
final class State {
    private State() {
    }

    static String of(GuaranteeBook book) {
        StringBuilder text = new StringBuilder();
        for (int what : new int[] {0, 1, 2, 3, 10, 11, 12, 13}) {
            text.append(book.count(what)).append(' ');
        }
        for (int holder = 0; holder < 8; holder++) {
            text.append("\nholder ").append(holder).append(':').append(book.free(holder)).append(" of");
            for (int i = 0; book.list(holder, i) != GuaranteeBook.NONE; i++) {
                text.append(' ').append(book.list(holder, i));
            }
        }
        for (int guarantee = 1; guarantee <= book.count(0); guarantee++) {
            text.append("\nguarantee ").append(guarantee).append(':').append(book.interest(guarantee));
            for (int what = 0; what <= 8; what++) {
                text.append(' ').append(book.look(guarantee, what));
            }
        }
        for (int reservation = 1; reservation <= book.count(1); reservation++) {
            text.append("\nreservation ").append(reservation).append(':');
            for (int what = 0; what <= 4; what++) {
                text.append(' ').append(book.of(reservation, what));
            }
            for (int part = 0; part < book.of(reservation, 4); part++) {
                text.append(' ').append(book.of(reservation, 5 + part));
                text.append('=').append(book.of(reservation, 9 + part));
            }
        }
        return text.toString();
    }
}
