/** All that can be asked of a house, as one text. */
final class Asked {
    private static final int ALL_THINGS = 4095;
    private static final int ROOM_WHATS = 5, GROUP_WHATS = 6, CREW_WHATS = 3, BOOKING_WHATS = 4;

    /** A call that answers a number. */
    interface Question {
        int answer();
    }

    private final StringBuilder text = new StringBuilder();
    private final House house;
    private int questionsLeft;
    private boolean isRefused;

    private Asked(House house, int questions) {
        this.house = house;
        questionsLeft = questions;
    }

    static String all(House house) {
        return upTo(house, Integer.MAX_VALUE);
    }

    /** The same, but only as much of it as that many calls tell. */
    static String upTo(House house, int questions) {
        Asked asked = new Asked(house, questions);
        asked.askAll();
        return asked.text.toString();
    }

    /** Calls the house in a fixed way, so that what it hides comes out, and tells what it answers; in so many calls. */
    static String later(House house, int calls) {
        Asked asked = new Asked(house, calls);
        asked.goOn();
        asked.askAll();
        return asked.text.toString();
    }

    static String answer(Question question) {
        try {
            return String.valueOf(question.answer());
        } catch (RuntimeException e) {
            return "throws." + e.getClass().getSimpleName();
        }
    }

    private void ask(Question question) {
        isRefused = true;
        if (questionsLeft > 0) {
            questionsLeft--;
            String answer = answer(question);
            isRefused = answer.startsWith("throws.");
            text.append(' ').append(answer);
        }
    }

    private void askWhats(int count, WhatQuestion question, int number) {
        for (int k = 0; k < count && (k == 0 || !isRefused); k++) {
            int what = k;
            ask(() -> question.answer(number, what));
        }
    }

    private interface WhatQuestion {
        int answer(int number, int what);
    }

    private void askAll() {
        text.append("minute");
        ask(house::minute);
        text.append(" crew");
        for (int crew = 0; crew < 3; crew++) {
            askWhats(CREW_WHATS, house::crew, crew);
        }
        text.append(" rooms");
        for (int room = 0; room == 0 || !isRefused; room++) {
            askWhats(ROOM_WHATS, house::state, room);
            if (!isRefused) {
                askWays(room);
            }
        }
        text.append(" groups");
        isRefused = false;
        for (int group = 0; !isRefused; group++) {
            askWhats(GROUP_WHATS, house::group, group);
        }
        text.append(" bookings");
        isRefused = false;
        for (int booking = 0; !isRefused; booking++) {
            askWhats(BOOKING_WHATS, house::booking, booking);
        }
    }

    private void askWays(int room) {
        ask(() -> house.had(room, 0));
        ask(() -> house.had(room, 2));
        ask(() -> house.had(room, ALL_THINGS - 1));
        ask(() -> house.canBeLeft(room) ? 1 : 0);
        ask(() -> house.orders(room));
        ask(() -> house.offer(room, 0));
    }

    private void goOn() {
        int[] got = new int[1];
        for (int k = 0; k < 3; k++) {
            int crew = k;
            ask(() -> house.forget(crew));
        }
        for (int k = 0; k < 4; k++) {
            int room = k;
            ask(() -> got[0] = house.state(room, 3));
            if (isRefused) {
                break;
            }
            ask(() -> house.hint(got[0]));
            ask(() -> house.solve(got[0], 1));
            ask(() -> house.hint(got[0]));
            ask(() -> {
                house.reset(room, room % 3, true);
                return 0;
            });
            ask(() -> house.come(room));
        }
        ask(() -> got[0] = house.pass(14));
        askAll();
        for (int k = 0; k < 4; k++) {
            int room = k;
            ask(() -> house.come(room));
            ask(() -> house.book(room, got[0] + 90));
        }
        ask(() -> house.room(2));
        ask(() -> house.pass(61));
    }
}
